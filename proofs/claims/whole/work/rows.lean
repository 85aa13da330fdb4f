section
-- ===== PART A: goes FIRST, ahead of the names: the tables' words, and 'selects' of the private methods out of them =====
/-- a private method of a class that the tables say can be made, by its rows of tables_1 -/
def lw_okq (q : MethodName × Nat) : Prop := (q.1.cls ≠ "java/lang/invoke/MethodHandle" ∧ q.1.cls ≠ "java/lang/invoke/VarHandle") ∧ Cond.instantiable q.1.cls q.2 ∈ tables_1 ∧ Cond.privateMethod q.1 ∈ tables_1 ∧ Cond.instanceMethod q.1 ∈ tables_1
theorem lw_p0 : lw_okq (⟨"CompositeDecoder$BarText", "repeatBar", "(II)I"⟩, 4) := ⟨⟨by decide +kernel, by decide +kernel⟩, List.mem_of_getElem? (i := 67) (by decide +kernel), List.mem_of_getElem? (i := 371) (by decide +kernel), List.mem_of_getElem? (i := 372) (by decide +kernel)⟩
theorem lw_p1 : lw_okq (⟨"CompositeDecoder$Picture", "noiseAt", "(II)I"⟩, 9) := ⟨⟨by decide +kernel, by decide +kernel⟩, List.mem_of_getElem? (i := 24) (by decide +kernel), List.mem_of_getElem? (i := 397) (by decide +kernel), List.mem_of_getElem? (i := 398) (by decide +kernel)⟩
theorem lw_p2 : lw_okq (⟨"CompositeDecoder$Picture", "levelAt", "(III)I"⟩, 9) := ⟨⟨by decide +kernel, by decide +kernel⟩, List.mem_of_getElem? (i := 24) (by decide +kernel), List.mem_of_getElem? (i := 404) (by decide +kernel), List.mem_of_getElem? (i := 405) (by decide +kernel)⟩
theorem lw_p3 : lw_okq (⟨"CompositeDecoder$Picture", "burstAt", "(II)I"⟩, 9) := ⟨⟨by decide +kernel, by decide +kernel⟩, List.mem_of_getElem? (i := 24) (by decide +kernel), List.mem_of_getElem? (i := 408) (by decide +kernel), List.mem_of_getElem? (i := 409) (by decide +kernel)⟩
theorem lw_p4 : lw_okq (⟨"CompositeDecoder$Picture", "signOf", "(I)I"⟩, 9) := ⟨⟨by decide +kernel, by decide +kernel⟩, List.mem_of_getElem? (i := 24) (by decide +kernel), List.mem_of_getElem? (i := 414) (by decide +kernel), List.mem_of_getElem? (i := 415) (by decide +kernel)⟩
theorem lw_p5 : lw_okq (⟨"CompositeDecoder$LineFinder", "steer", "(I)V"⟩, 8) := ⟨⟨by decide +kernel, by decide +kernel⟩, List.mem_of_getElem? (i := 112) (by decide +kernel), List.mem_of_getElem? (i := 455) (by decide +kernel), List.mem_of_getElem? (i := 456) (by decide +kernel)⟩
theorem lw_p6 : lw_okq (⟨"CompositeDecoder$Bursts", "sumUp", "(LCompositeDecoder$Signal;II)V"⟩, 6) := ⟨⟨by decide +kernel, by decide +kernel⟩, List.mem_of_getElem? (i := 147) (by decide +kernel), List.mem_of_getElem? (i := 471) (by decide +kernel), List.mem_of_getElem? (i := 472) (by decide +kernel)⟩
theorem lw_p7 : lw_okq (⟨"CompositeDecoder$Bursts", "countPair", "(II)V"⟩, 6) := ⟨⟨by decide +kernel, by decide +kernel⟩, List.mem_of_getElem? (i := 147) (by decide +kernel), List.mem_of_getElem? (i := 482) (by decide +kernel), List.mem_of_getElem? (i := 483) (by decide +kernel)⟩
theorem lw_p8 : lw_okq (⟨"CompositeDecoder$Combs", "sumUp", "(LCompositeDecoder$Signal;[I)V"⟩, 5) := ⟨⟨by decide +kernel, by decide +kernel⟩, List.mem_of_getElem? (i := 200) (by decide +kernel), List.mem_of_getElem? (i := 515) (by decide +kernel), List.mem_of_getElem? (i := 516) (by decide +kernel)⟩
theorem lw_p9 : lw_okq (⟨"CompositeDecoder$Combs", "wayFor", "(IIII)I"⟩, 5) := ⟨⟨by decide +kernel, by decide +kernel⟩, List.mem_of_getElem? (i := 200) (by decide +kernel), List.mem_of_getElem? (i := 524) (by decide +kernel), List.mem_of_getElem? (i := 525) (by decide +kernel)⟩
theorem lw_p10 : lw_okq (⟨"CompositeDecoder$Combs", "isNear", "(III)Z"⟩, 5) := ⟨⟨by decide +kernel, by decide +kernel⟩, List.mem_of_getElem? (i := 200) (by decide +kernel), List.mem_of_getElem? (i := 528) (by decide +kernel), List.mem_of_getElem? (i := 529) (by decide +kernel)⟩
theorem lw_p11 : lw_okq (⟨"CompositeDecoder$Combs", "splitSegment", "(LCompositeDecoder$Signal;[IIII)V"⟩, 5) := ⟨⟨by decide +kernel, by decide +kernel⟩, List.mem_of_getElem? (i := 200) (by decide +kernel), List.mem_of_getElem? (i := 534) (by decide +kernel), List.mem_of_getElem? (i := 535) (by decide +kernel)⟩
theorem lw_p12 : lw_okq (⟨"CompositeDecoder$Colors", "turnSegment", "(LCompositeDecoder$Combs;IFFZ)V"⟩, 4) := ⟨⟨by decide +kernel, by decide +kernel⟩, List.mem_of_getElem? (i := 226) (by decide +kernel), List.mem_of_getElem? (i := 555) (by decide +kernel), List.mem_of_getElem? (i := 556) (by decide +kernel)⟩
theorem lw_p13 : lw_okq (⟨"CompositeDecoder$Colors", "mixSegment", "(IZ)V"⟩, 4) := ⟨⟨by decide +kernel, by decide +kernel⟩, List.mem_of_getElem? (i := 226) (by decide +kernel), List.mem_of_getElem? (i := 561) (by decide +kernel), List.mem_of_getElem? (i := 562) (by decide +kernel)⟩
theorem lw_p14 : lw_okq (⟨"CompositeDecoder$Movement", "kindOf", "(II)I"⟩, 3) := ⟨⟨by decide +kernel, by decide +kernel⟩, List.mem_of_getElem? (i := 247) (by decide +kernel), List.mem_of_getElem? (i := 573) (by decide +kernel), List.mem_of_getElem? (i := 574) (by decide +kernel)⟩
theorem lw_p15 : lw_okq (⟨"CompositeDecoder$Movement", "hasChanged", "(II)Z"⟩, 3) := ⟨⟨by decide +kernel, by decide +kernel⟩, List.mem_of_getElem? (i := 247) (by decide +kernel), List.mem_of_getElem? (i := 577) (by decide +kernel), List.mem_of_getElem? (i := 578) (by decide +kernel)⟩
def lw_privs_1 : List (MethodName × Nat) := [(⟨"CompositeDecoder$BarText", "repeatBar", "(II)I"⟩, 4), (⟨"CompositeDecoder$Picture", "noiseAt", "(II)I"⟩, 9), (⟨"CompositeDecoder$Picture", "levelAt", "(III)I"⟩, 9), (⟨"CompositeDecoder$Picture", "burstAt", "(II)I"⟩, 9), (⟨"CompositeDecoder$Picture", "signOf", "(I)I"⟩, 9), (⟨"CompositeDecoder$LineFinder", "steer", "(I)V"⟩, 8), (⟨"CompositeDecoder$Bursts", "sumUp", "(LCompositeDecoder$Signal;II)V"⟩, 6), (⟨"CompositeDecoder$Bursts", "countPair", "(II)V"⟩, 6), (⟨"CompositeDecoder$Combs", "sumUp", "(LCompositeDecoder$Signal;[I)V"⟩, 5), (⟨"CompositeDecoder$Combs", "wayFor", "(IIII)I"⟩, 5), (⟨"CompositeDecoder$Combs", "isNear", "(III)Z"⟩, 5), (⟨"CompositeDecoder$Combs", "splitSegment", "(LCompositeDecoder$Signal;[IIII)V"⟩, 5), (⟨"CompositeDecoder$Colors", "turnSegment", "(LCompositeDecoder$Combs;IFFZ)V"⟩, 4), (⟨"CompositeDecoder$Colors", "mixSegment", "(IZ)V"⟩, 4), (⟨"CompositeDecoder$Movement", "kindOf", "(II)I"⟩, 3), (⟨"CompositeDecoder$Movement", "hasChanged", "(II)Z"⟩, 3)]
theorem lw_r1 : ∀ q ∈ lw_privs_1, lw_okq q := List.forall_mem_cons.mpr ⟨lw_p0, List.forall_mem_cons.mpr ⟨lw_p1, List.forall_mem_cons.mpr ⟨lw_p2, List.forall_mem_cons.mpr ⟨lw_p3, List.forall_mem_cons.mpr ⟨lw_p4, List.forall_mem_cons.mpr ⟨lw_p5, List.forall_mem_cons.mpr ⟨lw_p6, List.forall_mem_cons.mpr ⟨lw_p7, List.forall_mem_cons.mpr ⟨lw_p8, List.forall_mem_cons.mpr ⟨lw_p9, List.forall_mem_cons.mpr ⟨lw_p10, List.forall_mem_cons.mpr ⟨lw_p11, List.forall_mem_cons.mpr ⟨lw_p12, List.forall_mem_cons.mpr ⟨lw_p13, List.forall_mem_cons.mpr ⟨lw_p14, List.forall_mem_cons.mpr ⟨lw_p15, fun _ h => absurd h List.not_mem_nil⟩⟩⟩⟩⟩⟩⟩⟩⟩⟩⟩⟩⟩⟩⟩⟩
theorem lw_p16 : lw_okq (⟨"CompositeDecoder", "countOfNow", "(I)I"⟩, 11) := ⟨⟨by decide +kernel, by decide +kernel⟩, List.mem_of_getElem? (i := 16) (by decide +kernel), List.mem_of_getElem? (i := 626) (by decide +kernel), List.mem_of_getElem? (i := 627) (by decide +kernel)⟩
theorem lw_p17 : lw_okq (⟨"CompositeDecoder", "countOfDecoding", "(I)I"⟩, 11) := ⟨⟨by decide +kernel, by decide +kernel⟩, List.mem_of_getElem? (i := 16) (by decide +kernel), List.mem_of_getElem? (i := 630) (by decide +kernel), List.mem_of_getElem? (i := 631) (by decide +kernel)⟩
theorem lw_p18 : lw_okq (⟨"CompositeDecoder", "wrongLumas", "()I"⟩, 11) := ⟨⟨by decide +kernel, by decide +kernel⟩, List.mem_of_getElem? (i := 16) (by decide +kernel), List.mem_of_getElem? (i := 634) (by decide +kernel), List.mem_of_getElem? (i := 635) (by decide +kernel)⟩
theorem lw_p19 : lw_okq (⟨"CompositeDecoder", "lumaDifferences", "()I"⟩, 11) := ⟨⟨by decide +kernel, by decide +kernel⟩, List.mem_of_getElem? (i := 16) (by decide +kernel), List.mem_of_getElem? (i := 638) (by decide +kernel), List.mem_of_getElem? (i := 639) (by decide +kernel)⟩
theorem lw_p20 : lw_okq (⟨"CompositeDecoderModel", "put", "(IIII)V"⟩, 35) := ⟨⟨by decide +kernel, by decide +kernel⟩, List.mem_of_getElem? (i := 646) (by decide +kernel), List.mem_of_getElem? (i := 776) (by decide +kernel), List.mem_of_getElem? (i := 777) (by decide +kernel)⟩
theorem lw_p21 : lw_okq (⟨"CompositeDecoderModel", "putBar", "(II)V"⟩, 35) := ⟨⟨by decide +kernel, by decide +kernel⟩, List.mem_of_getElem? (i := 646) (by decide +kernel), List.mem_of_getElem? (i := 813) (by decide +kernel), List.mem_of_getElem? (i := 814) (by decide +kernel)⟩
theorem lw_p22 : lw_okq (⟨"CompositeDecoderModel", "signal", "(II)I"⟩, 35) := ⟨⟨by decide +kernel, by decide +kernel⟩, List.mem_of_getElem? (i := 646) (by decide +kernel), List.mem_of_getElem? (i := 821) (by decide +kernel), List.mem_of_getElem? (i := 822) (by decide +kernel)⟩
theorem lw_p23 : lw_okq (⟨"CompositeDecoderModel", "findPulses", "()I"⟩, 35) := ⟨⟨by decide +kernel, by decide +kernel⟩, List.mem_of_getElem? (i := 646) (by decide +kernel), List.mem_of_getElem? (i := 842) (by decide +kernel), List.mem_of_getElem? (i := 843) (by decide +kernel)⟩
theorem lw_p24 : lw_okq (⟨"CompositeDecoderModel", "findPulse", "(I)I"⟩, 35) := ⟨⟨by decide +kernel, by decide +kernel⟩, List.mem_of_getElem? (i := 646) (by decide +kernel), List.mem_of_getElem? (i := 846) (by decide +kernel), List.mem_of_getElem? (i := 847) (by decide +kernel)⟩
theorem lw_p25 : lw_okq (⟨"CompositeDecoderModel", "findBursts", "()V"⟩, 35) := ⟨⟨by decide +kernel, by decide +kernel⟩, List.mem_of_getElem? (i := 646) (by decide +kernel), List.mem_of_getElem? (i := 853) (by decide +kernel), List.mem_of_getElem? (i := 854) (by decide +kernel)⟩
theorem lw_p26 : lw_okq (⟨"CompositeDecoderModel", "guessed", "()I"⟩, 35) := ⟨⟨by decide +kernel, by decide +kernel⟩, List.mem_of_getElem? (i := 646) (by decide +kernel), List.mem_of_getElem? (i := 860) (by decide +kernel), List.mem_of_getElem? (i := 861) (by decide +kernel)⟩
theorem lw_p27 : lw_okq (⟨"CompositeDecoderModel", "findTurns", "(I)V"⟩, 35) := ⟨⟨by decide +kernel, by decide +kernel⟩, List.mem_of_getElem? (i := 646) (by decide +kernel), List.mem_of_getElem? (i := 864) (by decide +kernel), List.mem_of_getElem? (i := 865) (by decide +kernel)⟩
theorem lw_p28 : lw_okq (⟨"CompositeDecoderModel", "comb", "(III)V"⟩, 35) := ⟨⟨by decide +kernel, by decide +kernel⟩, List.mem_of_getElem? (i := 646) (by decide +kernel), List.mem_of_getElem? (i := 869) (by decide +kernel), List.mem_of_getElem? (i := 870) (by decide +kernel)⟩
theorem lw_p29 : lw_okq (⟨"CompositeDecoderModel", "way", "(III)I"⟩, 35) := ⟨⟨by decide +kernel, by decide +kernel⟩, List.mem_of_getElem? (i := 646) (by decide +kernel), List.mem_of_getElem? (i := 873) (by decide +kernel), List.mem_of_getElem? (i := 874) (by decide +kernel)⟩
theorem lw_p30 : lw_okq (⟨"CompositeDecoderModel", "isNear", "(III)Z"⟩, 35) := ⟨⟨by decide +kernel, by decide +kernel⟩, List.mem_of_getElem? (i := 646) (by decide +kernel), List.mem_of_getElem? (i := 877) (by decide +kernel), List.mem_of_getElem? (i := 878) (by decide +kernel)⟩
theorem lw_p31 : lw_okq (⟨"CompositeDecoderModel", "sumOf", "(II)I"⟩, 35) := ⟨⟨by decide +kernel, by decide +kernel⟩, List.mem_of_getElem? (i := 646) (by decide +kernel), List.mem_of_getElem? (i := 881) (by decide +kernel), List.mem_of_getElem? (i := 882) (by decide +kernel)⟩
def lw_privs_2 : List (MethodName × Nat) := [(⟨"CompositeDecoder", "countOfNow", "(I)I"⟩, 11), (⟨"CompositeDecoder", "countOfDecoding", "(I)I"⟩, 11), (⟨"CompositeDecoder", "wrongLumas", "()I"⟩, 11), (⟨"CompositeDecoder", "lumaDifferences", "()I"⟩, 11), (⟨"CompositeDecoderModel", "put", "(IIII)V"⟩, 35), (⟨"CompositeDecoderModel", "putBar", "(II)V"⟩, 35), (⟨"CompositeDecoderModel", "signal", "(II)I"⟩, 35), (⟨"CompositeDecoderModel", "findPulses", "()I"⟩, 35), (⟨"CompositeDecoderModel", "findPulse", "(I)I"⟩, 35), (⟨"CompositeDecoderModel", "findBursts", "()V"⟩, 35), (⟨"CompositeDecoderModel", "guessed", "()I"⟩, 35), (⟨"CompositeDecoderModel", "findTurns", "(I)V"⟩, 35), (⟨"CompositeDecoderModel", "comb", "(III)V"⟩, 35), (⟨"CompositeDecoderModel", "way", "(III)I"⟩, 35), (⟨"CompositeDecoderModel", "isNear", "(III)Z"⟩, 35), (⟨"CompositeDecoderModel", "sumOf", "(II)I"⟩, 35)]
theorem lw_r2 : ∀ q ∈ lw_privs_2, lw_okq q := List.forall_mem_cons.mpr ⟨lw_p16, List.forall_mem_cons.mpr ⟨lw_p17, List.forall_mem_cons.mpr ⟨lw_p18, List.forall_mem_cons.mpr ⟨lw_p19, List.forall_mem_cons.mpr ⟨lw_p20, List.forall_mem_cons.mpr ⟨lw_p21, List.forall_mem_cons.mpr ⟨lw_p22, List.forall_mem_cons.mpr ⟨lw_p23, List.forall_mem_cons.mpr ⟨lw_p24, List.forall_mem_cons.mpr ⟨lw_p25, List.forall_mem_cons.mpr ⟨lw_p26, List.forall_mem_cons.mpr ⟨lw_p27, List.forall_mem_cons.mpr ⟨lw_p28, List.forall_mem_cons.mpr ⟨lw_p29, List.forall_mem_cons.mpr ⟨lw_p30, List.forall_mem_cons.mpr ⟨lw_p31, fun _ h => absurd h List.not_mem_nil⟩⟩⟩⟩⟩⟩⟩⟩⟩⟩⟩⟩⟩⟩⟩⟩
theorem lw_p32 : lw_okq (⟨"CompositeDecoderModel", "from", "(II)I"⟩, 35) := ⟨⟨by decide +kernel, by decide +kernel⟩, List.mem_of_getElem? (i := 646) (by decide +kernel), List.mem_of_getElem? (i := 885) (by decide +kernel), List.mem_of_getElem? (i := 886) (by decide +kernel)⟩
theorem lw_p33 : lw_okq (⟨"CompositeDecoderModel", "chromaAt", "(III)I"⟩, 35) := ⟨⟨by decide +kernel, by decide +kernel⟩, List.mem_of_getElem? (i := 646) (by decide +kernel), List.mem_of_getElem? (i := 889) (by decide +kernel), List.mem_of_getElem? (i := 890) (by decide +kernel)⟩
theorem lw_p34 : lw_okq (⟨"CompositeDecoderModel", "findMotion", "()V"⟩, 35) := ⟨⟨by decide +kernel, by decide +kernel⟩, List.mem_of_getElem? (i := 646) (by decide +kernel), List.mem_of_getElem? (i := 896) (by decide +kernel), List.mem_of_getElem? (i := 897) (by decide +kernel)⟩
theorem lw_p35 : lw_okq (⟨"CompositeDecoderModel", "motionAt", "(I)I"⟩, 35) := ⟨⟨by decide +kernel, by decide +kernel⟩, List.mem_of_getElem? (i := 646) (by decide +kernel), List.mem_of_getElem? (i := 933) (by decide +kernel), List.mem_of_getElem? (i := 934) (by decide +kernel)⟩
theorem lw_p36 : lw_okq (⟨"CompositeDecoderModel", "segments", "(I)I"⟩, 35) := ⟨⟨by decide +kernel, by decide +kernel⟩, List.mem_of_getElem? (i := 646) (by decide +kernel), List.mem_of_getElem? (i := 941) (by decide +kernel), List.mem_of_getElem? (i := 942) (by decide +kernel)⟩
theorem lw_p37 : lw_okq (⟨"CompositeDecoderModel", "linesWithColor", "()I"⟩, 35) := ⟨⟨by decide +kernel, by decide +kernel⟩, List.mem_of_getElem? (i := 646) (by decide +kernel), List.mem_of_getElem? (i := 945) (by decide +kernel), List.mem_of_getElem? (i := 946) (by decide +kernel)⟩
def lw_privs_3 : List (MethodName × Nat) := [(⟨"CompositeDecoderModel", "from", "(II)I"⟩, 35), (⟨"CompositeDecoderModel", "chromaAt", "(III)I"⟩, 35), (⟨"CompositeDecoderModel", "findMotion", "()V"⟩, 35), (⟨"CompositeDecoderModel", "motionAt", "(I)I"⟩, 35), (⟨"CompositeDecoderModel", "segments", "(I)I"⟩, 35), (⟨"CompositeDecoderModel", "linesWithColor", "()I"⟩, 35)]
theorem lw_r3 : ∀ q ∈ lw_privs_3, lw_okq q := List.forall_mem_cons.mpr ⟨lw_p32, List.forall_mem_cons.mpr ⟨lw_p33, List.forall_mem_cons.mpr ⟨lw_p34, List.forall_mem_cons.mpr ⟨lw_p35, List.forall_mem_cons.mpr ⟨lw_p36, List.forall_mem_cons.mpr ⟨lw_p37, fun _ h => absurd h List.not_mem_nil⟩⟩⟩⟩⟩⟩
def lw_privs : List (MethodName × Nat) := lw_privs_1 ++ (lw_privs_2 ++ (lw_privs_3))
def lw_tbl : List Cond := k2_sels lw_privs ++ tables_1
theorem lw_privs_ok : ∀ q ∈ lw_privs, lw_okq q := by
  show ∀ q ∈ lw_privs_1 ++ (lw_privs_2 ++ (lw_privs_3)), lw_okq q
  exact List.forall_mem_append.mpr ⟨lw_r1, List.forall_mem_append.mpr ⟨lw_r2, lw_r3⟩⟩
/-- the streams that the claim lets the run draw from -/
abbrev lw_cs : List Choice := [Jvm.Choice.named "NaN.bits"]
theorem lw_bits : nanBits ∈ lw_cs := by first | decide | exact List.mem_cons_self | simp [lw_cs, nanBits]
end
section
/-! names, fields, field types; the classes of the worlds -/
def RX0 : String := "CompositeDecoder$BarText"
def TX0 : u_T := fun k => match k with
  | 0 => ("CompositeDecoder$BarText", "characters", "[C", true)
  | 1 => ("CompositeDecoder$BarText", "used", "I", false)
  | 2 => ("CompositeDecoder$BarText", "bars", "[I", true)
  | _ => ("CompositeDecoder$BarText", "letters", "I", false)
def tyX0 : Nat → FieldType := fun k => match k with
  | 0 => .array .char
  | 1 => .int
  | 2 => .array .int
  | _ => .int
abbrev wsX00 : List Cond := u_ws RX0 TX0 4
theorem nmX0 : ∀ a, a < 4 → ∀ b, b < 4 → a ≠ b → (TX0 a).2.1 ≠ (TX0 b).2.1 := by decide +kernel
theorem tyX0_ok : ∀ k, k < 4 → parseFieldDescriptor (TX0 k).2.2.1 = some (tyX0 k) := by decide +kernel
abbrev cX0_init : ByteArray := prog_2_method_1_code
def yX0_init : MethodName := ⟨RX0, "<init>", "()V"⟩
abbrev cX0_append : ByteArray := prog_2_method_2_code
def yX0_append : MethodName := ⟨RX0, "append", "(C)Z"⟩
abbrev cX0_parse : ByteArray := prog_2_method_3_code
def yX0_parse : MethodName := ⟨RX0, "parse", "()I"⟩
abbrev cX0_repeatBar : ByteArray := prog_2_method_4_code
def yX0_repeatBar : MethodName := ⟨RX0, "repeatBar", "(II)I"⟩
abbrev cX0_paintBar : ByteArray := prog_2_method_5_code
def yX0_paintBar : MethodName := ⟨RX0, "paintBar", "(LCompositeDecoder$Picture;II)V"⟩
abbrev cX0_barOf : ByteArray := prog_2_method_6_code
def yX0_barOf : MethodName := ⟨RX0, "barOf", "(C)I"⟩
abbrev cX0_digitOf : ByteArray := prog_2_method_7_code
def yX0_digitOf : MethodName := ⟨RX0, "digitOf", "(C)I"⟩
def RX1 : String := "CompositeDecoder$Bursts"
def TX1 : u_T := fun k => match k with
  | 0 => ("CompositeDecoder$Bursts", "sines", "[I", true)
  | 1 => ("CompositeDecoder$Bursts", "cosines", "[I", true)
  | 2 => ("CompositeDecoder$Bursts", "good", "[Z", true)
  | 3 => ("CompositeDecoder$Bursts", "colorOn", "[Z", true)
  | 4 => ("CompositeDecoder$Bursts", "turnedPairs", "I", false)
  | _ => ("CompositeDecoder$Bursts", "steadyPairs", "I", false)
def tyX1 : Nat → FieldType := fun k => match k with
  | 0 => .array .int
  | 1 => .array .int
  | 2 => .array .boolean
  | 3 => .array .boolean
  | 4 => .int
  | _ => .int
abbrev wsX10 : List Cond := u_ws RX1 TX1 6
theorem nmX1 : ∀ a, a < 6 → ∀ b, b < 6 → a ≠ b → (TX1 a).2.1 ≠ (TX1 b).2.1 := by decide +kernel
theorem tyX1_ok : ∀ k, k < 6 → parseFieldDescriptor (TX1 k).2.2.1 = some (tyX1 k) := by decide +kernel
abbrev cX1_init : ByteArray := prog_3_method_1_code
def yX1_init : MethodName := ⟨RX1, "<init>", "()V"⟩
abbrev cX1_measure : ByteArray := prog_3_method_2_code
def yX1_measure : MethodName := ⟨RX1, "measure", "(LCompositeDecoder$Signal;[II)V"⟩
abbrev cX1_sumUp : ByteArray := prog_3_method_3_code
def yX1_sumUp : MethodName := ⟨RX1, "sumUp", "(LCompositeDecoder$Signal;II)V"⟩
abbrev cX1_countPair : ByteArray := prog_3_method_4_code
def yX1_countPair : MethodName := ⟨RX1, "countPair", "(II)V"⟩
abbrev cX1_guessedStandard : ByteArray := prog_3_method_5_code
def yX1_guessedStandard : MethodName := ⟨RX1, "guessedStandard", "()I"⟩
def RX2 : String := "CompositeDecoder$Colors"
def TX2 : u_T := fun k => match k with
  | 0 => ("CompositeDecoder$Colors", "rawUs", "[F", true)
  | 1 => ("CompositeDecoder$Colors", "rawVs", "[F", true)
  | 2 => ("CompositeDecoder$Colors", "us", "[F", true)
  | _ => ("CompositeDecoder$Colors", "vs", "[F", true)
def tyX2 : Nat → FieldType := fun k => match k with
  | 0 => .array .float
  | 1 => .array .float
  | 2 => .array .float
  | _ => .array .float
abbrev wsX20 : List Cond := u_ws RX2 TX2 4
theorem nmX2 : ∀ a, a < 4 → ∀ b, b < 4 → a ≠ b → (TX2 a).2.1 ≠ (TX2 b).2.1 := by decide +kernel
theorem tyX2_ok : ∀ k, k < 4 → parseFieldDescriptor (TX2 k).2.2.1 = some (tyX2 k) := by decide +kernel
abbrev cX2_init : ByteArray := prog_4_method_1_code
def yX2_init : MethodName := ⟨RX2, "<init>", "()V"⟩
abbrev cX2_turn : ByteArray := prog_4_method_2_code
def yX2_turn : MethodName := ⟨RX2, "turn", "(LCompositeDecoder$Combs;LCompositeDecoder$Bursts;LCompositeDecoder$PhaseReference;I)V"⟩
abbrev cX2_turnSegment : ByteArray := prog_4_method_3_code
def yX2_turnSegment : MethodName := ⟨RX2, "turnSegment", "(LCompositeDecoder$Combs;IFFZ)V"⟩
abbrev cX2_mixSegment : ByteArray := prog_4_method_4_code
def yX2_mixSegment : MethodName := ⟨RX2, "mixSegment", "(IZ)V"⟩
def RX3 : String := "CompositeDecoder$Combs"
def TX3 : u_T := fun k => match k with
  | 0 => ("CompositeDecoder$Combs", "sums", "[I", true)
  | 1 => ("CompositeDecoder$Combs", "lumas", "[I", true)
  | 2 => ("CompositeDecoder$Combs", "ways", "[I", true)
  | 3 => ("CompositeDecoder$Combs", "sines", "[I", true)
  | _ => ("CompositeDecoder$Combs", "cosines", "[I", true)
def tyX3 : Nat → FieldType := fun k => match k with
  | 0 => .array .int
  | 1 => .array .int
  | 2 => .array .int
  | 3 => .array .int
  | _ => .array .int
abbrev wsX30 : List Cond := u_ws RX3 TX3 5
theorem nmX3 : ∀ a, a < 5 → ∀ b, b < 5 → a ≠ b → (TX3 a).2.1 ≠ (TX3 b).2.1 := by decide +kernel
theorem tyX3_ok : ∀ k, k < 5 → parseFieldDescriptor (TX3 k).2.2.1 = some (tyX3 k) := by decide +kernel
abbrev cX3_init : ByteArray := prog_5_method_1_code
def yX3_init : MethodName := ⟨RX3, "<init>", "()V"⟩
abbrev cX3_separate : ByteArray := prog_5_method_2_code
def yX3_separate : MethodName := ⟨RX3, "separate", "(LCompositeDecoder$Signal;[ILCompositeDecoder$Settings;I)V"⟩
abbrev cX3_sumUp : ByteArray := prog_5_method_3_code
def yX3_sumUp : MethodName := ⟨RX3, "sumUp", "(LCompositeDecoder$Signal;[I)V"⟩
abbrev cX3_wayFor : ByteArray := prog_5_method_4_code
def yX3_wayFor : MethodName := ⟨RX3, "wayFor", "(IIII)I"⟩
abbrev cX3_isNear : ByteArray := prog_5_method_5_code
def yX3_isNear : MethodName := ⟨RX3, "isNear", "(III)Z"⟩
abbrev cX3_splitSegment : ByteArray := prog_5_method_6_code
def yX3_splitSegment : MethodName := ⟨RX3, "splitSegment", "(LCompositeDecoder$Signal;[IIII)V"⟩
abbrev cX3_chromaAt : ByteArray := prog_5_method_7_code
def yX3_chromaAt : MethodName := ⟨RX3, "chromaAt", "(LCompositeDecoder$Signal;[IIII)I"⟩
abbrev cX3_sampleAt : ByteArray := prog_5_method_8_code
def yX3_sampleAt : MethodName := ⟨RX3, "sampleAt", "(LCompositeDecoder$Signal;[III)I"⟩
def RX4 : String := "CompositeDecoder$LineFinder"
def TX4 : u_T := fun k => match k with
  | 0 => ("CompositeDecoder$LineFinder", "pulses", "[I", true)
  | 1 => ("CompositeDecoder$LineFinder", "starts", "[I", true)
  | 2 => ("CompositeDecoder$LineFinder", "positions", "[I", true)
  | 3 => ("CompositeDecoder$LineFinder", "locked", "[Z", true)
  | 4 => ("CompositeDecoder$LineFinder", "position", "I", false)
  | 5 => ("CompositeDecoder$LineFinder", "hits", "I", false)
  | 6 => ("CompositeDecoder$LineFinder", "misses", "I", false)
  | _ => ("CompositeDecoder$LineFinder", "isLocked", "Z", false)
def tyX4 : Nat → FieldType := fun k => match k with
  | 0 => .array .int
  | 1 => .array .int
  | 2 => .array .int
  | 3 => .array .boolean
  | 4 => .int
  | 5 => .int
  | 6 => .int
  | _ => .boolean
abbrev wsX40 : List Cond := u_ws RX4 TX4 8
theorem nmX4 : ∀ a, a < 8 → ∀ b, b < 8 → a ≠ b → (TX4 a).2.1 ≠ (TX4 b).2.1 := by decide +kernel
theorem tyX4_ok : ∀ k, k < 8 → parseFieldDescriptor (TX4 k).2.2.1 = some (tyX4 k) := by decide +kernel
abbrev cX4_init : ByteArray := prog_6_method_1_code
def yX4_init : MethodName := ⟨RX4, "<init>", "()V"⟩
abbrev cX4_find : ByteArray := prog_6_method_2_code
def yX4_find : MethodName := ⟨RX4, "find", "(LCompositeDecoder$Signal;)V"⟩
abbrev cX4_steer : ByteArray := prog_6_method_3_code
def yX4_steer : MethodName := ⟨RX4, "steer", "(I)V"⟩
def RX5 : String := "CompositeDecoder$Movement"
def TX5 : u_T := fun k => match k with
  | 0 => ("CompositeDecoder$Movement", "lumasBefore", "[I", true)
  | 1 => ("CompositeDecoder$Movement", "changed", "[Z", true)
  | _ => ("CompositeDecoder$Movement", "kinds", "[I", true)
def tyX5 : Nat → FieldType := fun k => match k with
  | 0 => .array .int
  | 1 => .array .boolean
  | _ => .array .int
abbrev wsX50 : List Cond := u_ws RX5 TX5 3
theorem nmX5 : ∀ a, a < 3 → ∀ b, b < 3 → a ≠ b → (TX5 a).2.1 ≠ (TX5 b).2.1 := by decide +kernel
theorem tyX5_ok : ∀ k, k < 3 → parseFieldDescriptor (TX5 k).2.2.1 = some (tyX5 k) := by decide +kernel
abbrev cX5_init : ByteArray := prog_7_method_1_code
def yX5_init : MethodName := ⟨RX5, "<init>", "()V"⟩
abbrev cX5_watch : ByteArray := prog_7_method_2_code
def yX5_watch : MethodName := ⟨RX5, "watch", "([IIZ)V"⟩
abbrev cX5_kindOf : ByteArray := prog_7_method_3_code
def yX5_kindOf : MethodName := ⟨RX5, "kindOf", "(II)I"⟩
abbrev cX5_hasChanged : ByteArray := prog_7_method_4_code
def yX5_hasChanged : MethodName := ⟨RX5, "hasChanged", "(II)Z"⟩
def RX6 : String := "CompositeDecoder$PhaseReference"
def TX6 : u_T := fun k => match k with
  | 0 => ("CompositeDecoder$PhaseReference", "sines", "[F", true)
  | _ => ("CompositeDecoder$PhaseReference", "cosines", "[F", true)
def tyX6 : Nat → FieldType := fun k => match k with
  | 0 => .array .float
  | _ => .array .float
abbrev wsX60 : List Cond := u_ws RX6 TX6 2
theorem nmX6 : ∀ a, a < 2 → ∀ b, b < 2 → a ≠ b → (TX6 a).2.1 ≠ (TX6 b).2.1 := by decide +kernel
theorem tyX6_ok : ∀ k, k < 2 → parseFieldDescriptor (TX6 k).2.2.1 = some (tyX6 k) := by decide +kernel
abbrev cX6_init : ByteArray := prog_8_method_1_code
def yX6_init : MethodName := ⟨RX6, "<init>", "()V"⟩
abbrev cX6_follow : ByteArray := prog_8_method_2_code
def yX6_follow : MethodName := ⟨RX6, "follow", "(LCompositeDecoder$Bursts;I)V"⟩
abbrev cX6_aimOf : ByteArray := prog_8_method_3_code
def yX6_aimOf : MethodName := ⟨RX6, "aimOf", "([III)F"⟩
def RX7 : String := "CompositeDecoder$Picture"
def TX7 : u_T := fun k => match k with
  | 0 => ("CompositeDecoder$Picture", "lumas", "[I", true)
  | 1 => ("CompositeDecoder$Picture", "us", "[I", true)
  | 2 => ("CompositeDecoder$Picture", "vs", "[I", true)
  | 3 => ("CompositeDecoder$Picture", "jitters", "[I", true)
  | 4 => ("CompositeDecoder$Picture", "amplitudes", "[I", true)
  | 5 => ("CompositeDecoder$Picture", "phases", "[I", true)
  | 6 => ("CompositeDecoder$Picture", "noises", "[I", true)
  | 7 => ("CompositeDecoder$Picture", "missing", "[Z", true)
  | _ => ("CompositeDecoder$Picture", "standard", "I", false)
def tyX7 : Nat → FieldType := fun k => match k with
  | 0 => .array .int
  | 1 => .array .int
  | 2 => .array .int
  | 3 => .array .int
  | 4 => .array .int
  | 5 => .array .int
  | 6 => .array .int
  | 7 => .array .boolean
  | _ => .int
abbrev wsX70 : List Cond := u_ws RX7 TX7 9
theorem nmX7 : ∀ a, a < 9 → ∀ b, b < 9 → a ≠ b → (TX7 a).2.1 ≠ (TX7 b).2.1 := by decide +kernel
theorem tyX7_ok : ∀ k, k < 9 → parseFieldDescriptor (TX7 k).2.2.1 = some (tyX7 k) := by decide +kernel
abbrev cX7_init : ByteArray := prog_9_method_1_code
def yX7_init : MethodName := ⟨RX7, "<init>", "()V"⟩
abbrev cX7_paint : ByteArray := prog_9_method_2_code
def yX7_paint : MethodName := ⟨RX7, "paint", "(IIII)Z"⟩
abbrev cX7_sampleAt : ByteArray := prog_9_method_3_code
def yX7_sampleAt : MethodName := ⟨RX7, "sampleAt", "(II)I"⟩
abbrev cX7_noiseAt : ByteArray := prog_9_method_4_code
def yX7_noiseAt : MethodName := ⟨RX7, "noiseAt", "(II)I"⟩
abbrev cX7_levelAt : ByteArray := prog_9_method_5_code
def yX7_levelAt : MethodName := ⟨RX7, "levelAt", "(III)I"⟩
abbrev cX7_burstAt : ByteArray := prog_9_method_6_code
def yX7_burstAt : MethodName := ⟨RX7, "burstAt", "(II)I"⟩
abbrev cX7_signOf : ByteArray := prog_9_method_7_code
def yX7_signOf : MethodName := ⟨RX7, "signOf", "(I)I"⟩
def RX8 : String := "CompositeDecoder$Settings"
def TX8 : u_T := fun k => match k with
  | _ => ("CompositeDecoder$Settings", "values", "[I", true)
def tyX8 : Nat → FieldType := fun k => match k with
  | _ => .array .int
abbrev wsX80 : List Cond := u_ws RX8 TX8 1
theorem nmX8 : ∀ a, a < 1 → ∀ b, b < 1 → a ≠ b → (TX8 a).2.1 ≠ (TX8 b).2.1 := by decide +kernel
theorem tyX8_ok : ∀ k, k < 1 → parseFieldDescriptor (TX8 k).2.2.1 = some (tyX8 k) := by decide +kernel
abbrev cX8_init : ByteArray := prog_10_method_1_code
def yX8_init : MethodName := ⟨RX8, "<init>", "()V"⟩
abbrev cX8_allows : ByteArray := prog_10_method_2_code
def yX8_allows : MethodName := ⟨RX8, "allows", "(II)Z"⟩
abbrev cX8_threshold : ByteArray := prog_10_method_3_code
def yX8_threshold : MethodName := ⟨RX8, "threshold", "()I"⟩
abbrev cX8_limit : ByteArray := prog_10_method_4_code
def yX8_limit : MethodName := ⟨RX8, "limit", "()I"⟩
abbrev cX8_comb : ByteArray := prog_10_method_5_code
def yX8_comb : MethodName := ⟨RX8, "comb", "()I"⟩
abbrev cX8_standardTaken : ByteArray := prog_10_method_6_code
def yX8_standardTaken : MethodName := ⟨RX8, "standardTaken", "(I)I"⟩
def RX9 : String := "CompositeDecoder$Signal"
def TX9 : u_T := fun k => match k with
  | _ => ("CompositeDecoder$Signal", "rows", "[[I", true)
def tyX9 : Nat → FieldType := fun k => match k with
  | _ => .array (.array .int)
abbrev wsX90 : List Cond := u_ws RX9 TX9 1
theorem nmX9 : ∀ a, a < 1 → ∀ b, b < 1 → a ≠ b → (TX9 a).2.1 ≠ (TX9 b).2.1 := by decide +kernel
theorem tyX9_ok : ∀ k, k < 1 → parseFieldDescriptor (TX9 k).2.2.1 = some (tyX9 k) := by decide +kernel
abbrev cX9_init : ByteArray := prog_11_method_1_code
def yX9_init : MethodName := ⟨RX9, "<init>", "()V"⟩
abbrev cX9_sendFrom : ByteArray := prog_11_method_2_code
def yX9_sendFrom : MethodName := ⟨RX9, "sendFrom", "(LCompositeDecoder$Picture;)V"⟩
abbrev cX9_at : ByteArray := prog_11_method_3_code
def yX9_at : MethodName := ⟨RX9, "at", "(II)I"⟩
abbrev cX9_sumFrom : ByteArray := prog_11_method_4_code
def yX9_sumFrom : MethodName := ⟨RX9, "sumFrom", "(II)I"⟩
abbrev cX9_pulseOf : ByteArray := prog_11_method_5_code
def yX9_pulseOf : MethodName := ⟨RX9, "pulseOf", "(I)I"⟩
def RX10 : String := "CompositeDecoder"
def TX10 : u_T := fun k => match k with
  | 0 => ("CompositeDecoder", "picture", "LCompositeDecoder$Picture;", true)
  | 1 => ("CompositeDecoder", "text", "LCompositeDecoder$BarText;", true)
  | 2 => ("CompositeDecoder", "settings", "LCompositeDecoder$Settings;", true)
  | 3 => ("CompositeDecoder", "signal", "LCompositeDecoder$Signal;", true)
  | 4 => ("CompositeDecoder", "finder", "LCompositeDecoder$LineFinder;", true)
  | 5 => ("CompositeDecoder", "bursts", "LCompositeDecoder$Bursts;", true)
  | 6 => ("CompositeDecoder", "phases", "LCompositeDecoder$PhaseReference;", true)
  | 7 => ("CompositeDecoder", "combs", "LCompositeDecoder$Combs;", true)
  | 8 => ("CompositeDecoder", "colors", "LCompositeDecoder$Colors;", true)
  | 9 => ("CompositeDecoder", "movement", "LCompositeDecoder$Movement;", true)
  | _ => ("CompositeDecoder", "decodings", "I", false)
def tyX10 : Nat → FieldType := fun k => match k with
  | 0 => .object "CompositeDecoder$Picture"
  | 1 => .object "CompositeDecoder$BarText"
  | 2 => .object "CompositeDecoder$Settings"
  | 3 => .object "CompositeDecoder$Signal"
  | 4 => .object "CompositeDecoder$LineFinder"
  | 5 => .object "CompositeDecoder$Bursts"
  | 6 => .object "CompositeDecoder$PhaseReference"
  | 7 => .object "CompositeDecoder$Combs"
  | 8 => .object "CompositeDecoder$Colors"
  | 9 => .object "CompositeDecoder$Movement"
  | _ => .int
abbrev wsX100 : List Cond := u_ws RX10 TX10 11
theorem nmX10 : ∀ a, a < 11 → ∀ b, b < 11 → a ≠ b → (TX10 a).2.1 ≠ (TX10 b).2.1 := by decide +kernel
theorem tyX10_ok : ∀ k, k < 11 → parseFieldDescriptor (TX10 k).2.2.1 = some (tyX10 k) := by decide +kernel
abbrev cX10_init : ByteArray := prog_1_method_1_code
def yX10_init : MethodName := ⟨RX10, "<init>", "()V"⟩
abbrev cX10_setSegment : ByteArray := prog_1_method_2_code
def yX10_setSegment : MethodName := ⟨RX10, "setSegment", "(IIIII)I"⟩
abbrev cX10_fill : ByteArray := prog_1_method_3_code
def yX10_fill : MethodName := ⟨RX10, "fill", "(IIII)I"⟩
abbrev cX10_setLine : ByteArray := prog_1_method_4_code
def yX10_setLine : MethodName := ⟨RX10, "setLine", "(IIIII)I"⟩
abbrev cX10_miss : ByteArray := prog_1_method_5_code
def yX10_miss : MethodName := ⟨RX10, "miss", "(IZ)I"⟩
abbrev cX10_setStandard : ByteArray := prog_1_method_6_code
def yX10_setStandard : MethodName := ⟨RX10, "setStandard", "(I)I"⟩
abbrev cX10_type : ByteArray := prog_1_method_7_code
def yX10_type : MethodName := ⟨RX10, "type", "(C)I"⟩
abbrev cX10_clearText : ByteArray := prog_1_method_8_code
def yX10_clearText : MethodName := ⟨RX10, "clearText", "()I"⟩
abbrev cX10_readBars : ByteArray := prog_1_method_9_code
def yX10_readBars : MethodName := ⟨RX10, "readBars", "(I)I"⟩
abbrev cX10_sample : ByteArray := prog_1_method_10_code
def yX10_sample : MethodName := ⟨RX10, "sample", "(II)I"⟩
abbrev cX10_set : ByteArray := prog_1_method_11_code
def yX10_set : MethodName := ⟨RX10, "set", "(II)I"⟩
abbrev cX10_decode : ByteArray := prog_1_method_12_code
def yX10_decode : MethodName := ⟨RX10, "decode", "()I"⟩
abbrev cX10_line : ByteArray := prog_1_method_13_code
def yX10_line : MethodName := ⟨RX10, "line", "(II)I"⟩
abbrev cX10_luma : ByteArray := prog_1_method_14_code
def yX10_luma : MethodName := ⟨RX10, "luma", "(II)I"⟩
abbrev cX10_combed : ByteArray := prog_1_method_15_code
def yX10_combed : MethodName := ⟨RX10, "combed", "(II)I"⟩
abbrev cX10_u : ByteArray := prog_1_method_16_code
def yX10_u : MethodName := ⟨RX10, "u", "(II)F"⟩
abbrev cX10_v : ByteArray := prog_1_method_17_code
def yX10_v : MethodName := ⟨RX10, "v", "(II)F"⟩
abbrev cX10_thousandths : ByteArray := prog_1_method_18_code
def yX10_thousandths : MethodName := ⟨RX10, "thousandths", "(III)I"⟩
abbrev cX10_reference : ByteArray := prog_1_method_19_code
def yX10_reference : MethodName := ⟨RX10, "reference", "(II)F"⟩
abbrev cX10_motion : ByteArray := prog_1_method_20_code
def yX10_motion : MethodName := ⟨RX10, "motion", "(II)I"⟩
abbrev cX10_count : ByteArray := prog_1_method_21_code
def yX10_count : MethodName := ⟨RX10, "count", "(I)I"⟩
abbrev cX10_countOfNow : ByteArray := prog_1_method_22_code
def yX10_countOfNow : MethodName := ⟨RX10, "countOfNow", "(I)I"⟩
abbrev cX10_countOfDecoding : ByteArray := prog_1_method_23_code
def yX10_countOfDecoding : MethodName := ⟨RX10, "countOfDecoding", "(I)I"⟩
abbrev cX10_wrongLumas : ByteArray := prog_1_method_24_code
def yX10_wrongLumas : MethodName := ⟨RX10, "wrongLumas", "()I"⟩
abbrev cX10_lumaDifferences : ByteArray := prog_1_method_25_code
def yX10_lumaDifferences : MethodName := ⟨RX10, "lumaDifferences", "()I"⟩
abbrev cX10_tally : ByteArray := prog_1_method_26_code
def yX10_tally : MethodName := ⟨RX10, "tally", "([Z)I"⟩
abbrev cX10_tally_ : ByteArray := prog_1_method_27_code
def yX10_tally_ : MethodName := ⟨RX10, "tally", "([II)I"⟩
abbrev cX10_oneIf : ByteArray := prog_1_method_28_code
def yX10_oneIf : MethodName := ⟨RX10, "oneIf", "(Z)I"⟩
abbrev cX10_isWithin : ByteArray := prog_1_method_29_code
def yX10_isWithin : MethodName := ⟨RX10, "isWithin", "(III)Z"⟩
abbrev cX10_isLine : ByteArray := prog_1_method_30_code
def yX10_isLine : MethodName := ⟨RX10, "isLine", "(I)Z"⟩
abbrev cX10_isPlace : ByteArray := prog_1_method_31_code
def yX10_isPlace : MethodName := ⟨RX10, "isPlace", "(II)Z"⟩
abbrev cX10_isPaint : ByteArray := prog_1_method_32_code
def yX10_isPaint : MethodName := ⟨RX10, "isPaint", "(III)Z"⟩
abbrev cX10_placeOf : ByteArray := prog_1_method_33_code
def yX10_placeOf : MethodName := ⟨RX10, "placeOf", "(II)I"⟩
abbrev cX10_turnAt : ByteArray := prog_1_method_34_code
def yX10_turnAt : MethodName := ⟨RX10, "turnAt", "(II)I"⟩
def RX11 : String := "CompositeDecoderModel"
def TX11 : u_T := fun k => match k with
  | 0 => ("CompositeDecoderModel", "lightOf", "[I", true)
  | 1 => ("CompositeDecoderModel", "firstOf", "[I", true)
  | 2 => ("CompositeDecoderModel", "secondOf", "[I", true)
  | 3 => ("CompositeDecoderModel", "jitterOf", "[I", true)
  | 4 => ("CompositeDecoderModel", "amplitudeOf", "[I", true)
  | 5 => ("CompositeDecoderModel", "phaseOf", "[I", true)
  | 6 => ("CompositeDecoderModel", "noiseOf", "[I", true)
  | 7 => ("CompositeDecoderModel", "isMissing", "[Z", true)
  | 8 => ("CompositeDecoderModel", "signal", "I", false)
  | 9 => ("CompositeDecoderModel", "settingOf", "[I", true)
  | 10 => ("CompositeDecoderModel", "typed", "I", false)
  | 11 => ("CompositeDecoderModel", "text", "[C", true)
  | 12 => ("CompositeDecoderModel", "read", "[I", true)
  | 13 => ("CompositeDecoderModel", "decodings", "I", false)
  | 14 => ("CompositeDecoderModel", "foundAt", "[I", true)
  | 15 => ("CompositeDecoderModel", "startOf", "[I", true)
  | 16 => ("CompositeDecoderModel", "isLocked", "[Z", true)
  | 17 => ("CompositeDecoderModel", "wheelAt", "[I", true)
  | 18 => ("CompositeDecoderModel", "burstP", "[I", true)
  | 19 => ("CompositeDecoderModel", "burstQ", "[I", true)
  | 20 => ("CompositeDecoderModel", "isGood", "[Z", true)
  | 21 => ("CompositeDecoderModel", "hasColor", "[Z", true)
  | 22 => ("CompositeDecoderModel", "turned", "I", false)
  | 23 => ("CompositeDecoderModel", "steady", "I", false)
  | 24 => ("CompositeDecoderModel", "turnP", "[F", true)
  | 25 => ("CompositeDecoderModel", "turnQ", "[F", true)
  | 26 => ("CompositeDecoderModel", "lumaOf", "[I", true)
  | 27 => ("CompositeDecoderModel", "lumaBefore", "[I", true)
  | 28 => ("CompositeDecoderModel", "wayOf", "[I", true)
  | 29 => ("CompositeDecoderModel", "rawU", "[F", true)
  | 30 => ("CompositeDecoderModel", "rawV", "[F", true)
  | 31 => ("CompositeDecoderModel", "colorU", "[F", true)
  | 32 => ("CompositeDecoderModel", "colorV", "[F", true)
  | 33 => ("CompositeDecoderModel", "chroma", "[I", true)
  | _ => ("CompositeDecoderModel", "hasChanged", "[Z", true)
def tyX11 : Nat → FieldType := fun k => match k with
  | 0 => .array .int
  | 1 => .array .int
  | 2 => .array .int
  | 3 => .array .int
  | 4 => .array .int
  | 5 => .array .int
  | 6 => .array .int
  | 7 => .array .boolean
  | 8 => .int
  | 9 => .array .int
  | 10 => .int
  | 11 => .array .char
  | 12 => .array .int
  | 13 => .int
  | 14 => .array .int
  | 15 => .array .int
  | 16 => .array .boolean
  | 17 => .array .int
  | 18 => .array .int
  | 19 => .array .int
  | 20 => .array .boolean
  | 21 => .array .boolean
  | 22 => .int
  | 23 => .int
  | 24 => .array .float
  | 25 => .array .float
  | 26 => .array .int
  | 27 => .array .int
  | 28 => .array .int
  | 29 => .array .float
  | 30 => .array .float
  | 31 => .array .float
  | 32 => .array .float
  | 33 => .array .int
  | _ => .array .boolean
abbrev wsX110 : List Cond := u_ws RX11 TX11 35
theorem nmX11 : ∀ a, a < 35 → ∀ b, b < 35 → a ≠ b → (TX11 a).2.1 ≠ (TX11 b).2.1 := by decide +kernel
theorem tyX11_ok : ∀ k, k < 35 → parseFieldDescriptor (TX11 k).2.2.1 = some (tyX11 k) := by decide +kernel
abbrev cX11_init : ByteArray := prog_13_method_1_code
def yX11_init : MethodName := ⟨RX11, "<init>", "()V"⟩
abbrev cX11_in : ByteArray := prog_13_method_2_code
def yX11_in : MethodName := ⟨RX11, "in", "(III)Z"⟩
abbrev cX11_size : ByteArray := prog_13_method_3_code
def yX11_size : MethodName := ⟨RX11, "size", "(I)I"⟩
abbrev cX11_quotient : ByteArray := prog_13_method_4_code
def yX11_quotient : MethodName := ⟨RX11, "quotient", "(II)I"⟩
abbrev cX11_rest : ByteArray := prog_13_method_5_code
def yX11_rest : MethodName := ⟨RX11, "rest", "(I)I"⟩
abbrev cX11_a : ByteArray := prog_13_method_6_code
def yX11_a : MethodName := ⟨RX11, "a", "(I)I"⟩
abbrev cX11_b : ByteArray := prog_13_method_7_code
def yX11_b : MethodName := ⟨RX11, "b", "(I)I"⟩
abbrev cX11_noLine : ByteArray := prog_13_method_8_code
def yX11_noLine : MethodName := ⟨RX11, "noLine", "(I)Z"⟩
abbrev cX11_noSegment : ByteArray := prog_13_method_9_code
def yX11_noSegment : MethodName := ⟨RX11, "noSegment", "(II)Z"⟩
abbrev cX11_isColor : ByteArray := prog_13_method_10_code
def yX11_isColor : MethodName := ⟨RX11, "isColor", "(III)Z"⟩
abbrev cX11_put : ByteArray := prog_13_method_11_code
def yX11_put : MethodName := ⟨RX11, "put", "(IIII)V"⟩
abbrev cX11_setSegment : ByteArray := prog_13_method_12_code
def yX11_setSegment : MethodName := ⟨RX11, "setSegment", "(IIIII)I"⟩
abbrev cX11_fill : ByteArray := prog_13_method_13_code
def yX11_fill : MethodName := ⟨RX11, "fill", "(IIII)I"⟩
abbrev cX11_setLine : ByteArray := prog_13_method_14_code
def yX11_setLine : MethodName := ⟨RX11, "setLine", "(IIIII)I"⟩
abbrev cX11_miss : ByteArray := prog_13_method_15_code
def yX11_miss : MethodName := ⟨RX11, "miss", "(IZ)I"⟩
abbrev cX11_setStandard : ByteArray := prog_13_method_16_code
def yX11_setStandard : MethodName := ⟨RX11, "setStandard", "(I)I"⟩
abbrev cX11_type : ByteArray := prog_13_method_17_code
def yX11_type : MethodName := ⟨RX11, "type", "(C)I"⟩
abbrev cX11_clearText : ByteArray := prog_13_method_18_code
def yX11_clearText : MethodName := ⟨RX11, "clearText", "()I"⟩
abbrev cX11_barOf : ByteArray := prog_13_method_19_code
def yX11_barOf : MethodName := ⟨RX11, "barOf", "(C)I"⟩
abbrev cX11_putBar : ByteArray := prog_13_method_20_code
def yX11_putBar : MethodName := ⟨RX11, "putBar", "(II)V"⟩
abbrev cX11_readBars : ByteArray := prog_13_method_21_code
def yX11_readBars : MethodName := ⟨RX11, "readBars", "(I)I"⟩
abbrev cX11_signal : ByteArray := prog_13_method_22_code
def yX11_signal : MethodName := ⟨RX11, "signal", "(II)I"⟩
abbrev cX11_sample : ByteArray := prog_13_method_23_code
def yX11_sample : MethodName := ⟨RX11, "sample", "(II)I"⟩
abbrev cX11_set : ByteArray := prog_13_method_24_code
def yX11_set : MethodName := ⟨RX11, "set", "(II)I"⟩
abbrev cX11_findPulse : ByteArray := prog_13_method_25_code
def yX11_findPulse : MethodName := ⟨RX11, "findPulse", "(I)I"⟩
abbrev cX11_findPulses : ByteArray := prog_13_method_26_code
def yX11_findPulses : MethodName := ⟨RX11, "findPulses", "()I"⟩
abbrev cX11_findBursts : ByteArray := prog_13_method_27_code
def yX11_findBursts : MethodName := ⟨RX11, "findBursts", "()V"⟩
abbrev cX11_guessed : ByteArray := prog_13_method_28_code
def yX11_guessed : MethodName := ⟨RX11, "guessed", "()I"⟩
abbrev cX11_findTurns : ByteArray := prog_13_method_29_code
def yX11_findTurns : MethodName := ⟨RX11, "findTurns", "(I)V"⟩
abbrev cX11_from : ByteArray := prog_13_method_30_code
def yX11_from : MethodName := ⟨RX11, "from", "(II)I"⟩
abbrev cX11_sumOf : ByteArray := prog_13_method_31_code
def yX11_sumOf : MethodName := ⟨RX11, "sumOf", "(II)I"⟩
abbrev cX11_isNear : ByteArray := prog_13_method_32_code
def yX11_isNear : MethodName := ⟨RX11, "isNear", "(III)Z"⟩
abbrev cX11_way : ByteArray := prog_13_method_33_code
def yX11_way : MethodName := ⟨RX11, "way", "(III)I"⟩
abbrev cX11_chromaAt : ByteArray := prog_13_method_34_code
def yX11_chromaAt : MethodName := ⟨RX11, "chromaAt", "(III)I"⟩
abbrev cX11_comb : ByteArray := prog_13_method_35_code
def yX11_comb : MethodName := ⟨RX11, "comb", "(III)V"⟩
abbrev cX11_findMotion : ByteArray := prog_13_method_36_code
def yX11_findMotion : MethodName := ⟨RX11, "findMotion", "()V"⟩
abbrev cX11_motionAt : ByteArray := prog_13_method_37_code
def yX11_motionAt : MethodName := ⟨RX11, "motionAt", "(I)I"⟩
abbrev cX11_decode : ByteArray := prog_13_method_38_code
def yX11_decode : MethodName := ⟨RX11, "decode", "()I"⟩
abbrev cX11_line : ByteArray := prog_13_method_39_code
def yX11_line : MethodName := ⟨RX11, "line", "(II)I"⟩
abbrev cX11_luma : ByteArray := prog_13_method_40_code
def yX11_luma : MethodName := ⟨RX11, "luma", "(II)I"⟩
abbrev cX11_combed : ByteArray := prog_13_method_41_code
def yX11_combed : MethodName := ⟨RX11, "combed", "(II)I"⟩
abbrev cX11_u : ByteArray := prog_13_method_42_code
def yX11_u : MethodName := ⟨RX11, "u", "(II)F"⟩
abbrev cX11_v : ByteArray := prog_13_method_43_code
def yX11_v : MethodName := ⟨RX11, "v", "(II)F"⟩
abbrev cX11_thousandths : ByteArray := prog_13_method_44_code
def yX11_thousandths : MethodName := ⟨RX11, "thousandths", "(III)I"⟩
abbrev cX11_reference : ByteArray := prog_13_method_45_code
def yX11_reference : MethodName := ⟨RX11, "reference", "(II)F"⟩
abbrev cX11_motion : ByteArray := prog_13_method_46_code
def yX11_motion : MethodName := ⟨RX11, "motion", "(II)I"⟩
abbrev cX11_linesWithColor : ByteArray := prog_13_method_47_code
def yX11_linesWithColor : MethodName := ⟨RX11, "linesWithColor", "()I"⟩
abbrev cX11_segments : ByteArray := prog_13_method_48_code
def yX11_segments : MethodName := ⟨RX11, "segments", "(I)I"⟩
abbrev cX11_count : ByteArray := prog_13_method_49_code
def yX11_count : MethodName := ⟨RX11, "count", "(I)I"⟩
def RJ9 : String := "java/lang/Math"
abbrev cJ9_floorDiv_7cf53 : ByteArray := prog_14_method_47_code
def yJ9_floorDiv_7cf53 : MethodName := ⟨RJ9, "floorDiv", "(II)I"⟩
abbrev cJ9_floorMod_7cf53 : ByteArray := prog_14_method_50_code
def yJ9_floorMod_7cf53 : MethodName := ⟨RJ9, "floorMod", "(II)I"⟩
abbrev cJ9_abs_0f7a4 : ByteArray := prog_14_method_59_code
def yJ9_abs_0f7a4 : MethodName := ⟨RJ9, "abs", "(I)I"⟩
def RJ10 : String := "java/lang/System"
def RL : String := "CompositeDecoderLaw"
abbrev cL_law : ByteArray := code
def yL_law : MethodName := ⟨RL, "law", "([I)Z"⟩
abbrev vwCl : List vw_C := [(RX0, TX0, 4), (RX1, TX1, 6), (RX2, TX2, 4), (RX3, TX3, 5), (RX4, TX4, 8), (RX5, TX5, 3), (RX6, TX6, 2), (RX7, TX7, 9), (RX8, TX8, 1), (RX9, TX9, 1), (RX10, TX10, 11), (RX11, TX11, 35)]
end
section
/-! decode rows, part 1 -/
theorem dX0_init_0 : decode cX0_init 0 = .ok (.aload_n 0, 1) := by decide +kernel
theorem dX0_init_1 : decode cX0_init 1 = .ok (.invokespecial 3, 3) := by decide +kernel
theorem dX0_init_4 : decode cX0_init 4 = .ok (.aload_n 0, 1) := by decide +kernel
theorem dX0_init_5 : decode cX0_init 5 = .ok (.bipush 60, 2) := by decide +kernel
theorem dX0_init_7 : decode cX0_init 7 = .ok (.newarray .char, 2) := by decide +kernel
theorem dX0_init_9 : decode cX0_init 9 = .ok (.putfield 11, 3) := by decide +kernel
theorem dX0_init_12 : decode cX0_init 12 = .ok (.aload_n 0, 1) := by decide +kernel
theorem dX0_init_13 : decode cX0_init 13 = .ok (.bipush 10, 2) := by decide +kernel
theorem dX0_init_15 : decode cX0_init 15 = .ok (.newarray .int, 2) := by decide +kernel
theorem dX0_init_17 : decode cX0_init 17 = .ok (.putfield 15, 3) := by decide +kernel
theorem dX0_init_20 : decode cX0_init 20 = .ok (.return_, 1) := by decide +kernel
theorem dX0_append_0 : decode cX0_append 0 = .ok (.aload_n 0, 1) := by decide +kernel
theorem dX0_append_1 : decode cX0_append 1 = .ok (.getfield 19, 3) := by decide +kernel
theorem dX0_append_4 : decode cX0_append 4 = .ok (.bipush 60, 2) := by decide +kernel
theorem dX0_append_6 : decode cX0_append 6 = .ok (.if_icmp .lt 5, 3) := by decide +kernel
theorem dX0_append_9 : decode cX0_append 9 = .ok (.iconst 0, 1) := by decide +kernel
theorem dX0_append_10 : decode cX0_append 10 = .ok (.ireturn, 1) := by decide +kernel
theorem dX0_append_11 : decode cX0_append 11 = .ok (.aload_n 0, 1) := by decide +kernel
theorem dX0_append_12 : decode cX0_append 12 = .ok (.getfield 11, 3) := by decide +kernel
theorem dX0_append_15 : decode cX0_append 15 = .ok (.aload_n 0, 1) := by decide +kernel
theorem dX0_append_16 : decode cX0_append 16 = .ok (.getfield 19, 3) := by decide +kernel
theorem dX0_append_19 : decode cX0_append 19 = .ok (.iload_n 1, 1) := by decide +kernel
theorem dX0_append_20 : decode cX0_append 20 = .ok (.castore, 1) := by decide +kernel
theorem dX0_append_21 : decode cX0_append 21 = .ok (.aload_n 0, 1) := by decide +kernel
theorem dX0_append_22 : decode cX0_append 22 = .ok (.dup, 1) := by decide +kernel
theorem dX0_append_23 : decode cX0_append 23 = .ok (.getfield 19, 3) := by decide +kernel
theorem dX0_append_26 : decode cX0_append 26 = .ok (.iconst 1, 1) := by decide +kernel
theorem dX0_append_27 : decode cX0_append 27 = .ok (.iadd, 1) := by decide +kernel
theorem dX0_append_28 : decode cX0_append 28 = .ok (.putfield 19, 3) := by decide +kernel
theorem dX0_append_31 : decode cX0_append 31 = .ok (.iconst 1, 1) := by decide +kernel
theorem dX0_append_32 : decode cX0_append 32 = .ok (.ireturn, 1) := by decide +kernel
theorem dX0_parse_0 : decode cX0_parse 0 = .ok (.iconst 0, 1) := by decide +kernel
theorem dX0_parse_1 : decode cX0_parse 1 = .ok (.istore_n 1, 1) := by decide +kernel
theorem dX0_parse_2 : decode cX0_parse 2 = .ok (.iconst 0, 1) := by decide +kernel
theorem dX0_parse_3 : decode cX0_parse 3 = .ok (.istore_n 2, 1) := by decide +kernel
theorem dX0_parse_4 : decode cX0_parse 4 = .ok (.aload_n 0, 1) := by decide +kernel
theorem dX0_parse_5 : decode cX0_parse 5 = .ok (.iconst 0, 1) := by decide +kernel
theorem dX0_parse_6 : decode cX0_parse 6 = .ok (.putfield 23, 3) := by decide +kernel
theorem dX0_parse_9 : decode cX0_parse 9 = .ok (.iconst 0, 1) := by decide +kernel
theorem dX0_parse_10 : decode cX0_parse 10 = .ok (.istore_n 3, 1) := by decide +kernel
theorem dX0_parse_11 : decode cX0_parse 11 = .ok (.iload_n 3, 1) := by decide +kernel
theorem dX0_parse_12 : decode cX0_parse 12 = .ok (.aload_n 0, 1) := by decide +kernel
theorem dX0_parse_13 : decode cX0_parse 13 = .ok (.getfield 19, 3) := by decide +kernel
theorem dX0_parse_16 : decode cX0_parse 16 = .ok (.if_icmp .ge 106, 3) := by decide +kernel
theorem dX0_parse_19 : decode cX0_parse 19 = .ok (.aload_n 0, 1) := by decide +kernel
theorem dX0_parse_20 : decode cX0_parse 20 = .ok (.getfield 11, 3) := by decide +kernel
theorem dX0_parse_23 : decode cX0_parse 23 = .ok (.iload_n 3, 1) := by decide +kernel
theorem dX0_parse_24 : decode cX0_parse 24 = .ok (.caload, 1) := by decide +kernel
theorem dX0_parse_25 : decode cX0_parse 25 = .ok (.invokestatic 26, 3) := by decide +kernel
theorem dX0_parse_28 : decode cX0_parse 28 = .ok (.istore 4, 2) := by decide +kernel
theorem dX0_parse_30 : decode cX0_parse 30 = .ok (.iload 4, 2) := by decide +kernel
theorem dX0_parse_32 : decode cX0_parse 32 = .ok (.ifCond .lt 37, 3) := by decide +kernel
theorem dX0_parse_35 : decode cX0_parse 35 = .ok (.iload_n 1, 1) := by decide +kernel
theorem dX0_parse_36 : decode cX0_parse 36 = .ok (.bipush 10, 2) := by decide +kernel
theorem dX0_parse_38 : decode cX0_parse 38 = .ok (.if_icmp .lt 5, 3) := by decide +kernel
theorem dX0_parse_41 : decode cX0_parse 41 = .ok (.iload_n 3, 1) := by decide +kernel
theorem dX0_parse_42 : decode cX0_parse 42 = .ok (.ireturn, 1) := by decide +kernel
theorem dX0_parse_43 : decode cX0_parse 43 = .ok (.aload_n 0, 1) := by decide +kernel
theorem dX0_parse_44 : decode cX0_parse 44 = .ok (.getfield 15, 3) := by decide +kernel
theorem dX0_parse_47 : decode cX0_parse 47 = .ok (.iload_n 1, 1) := by decide +kernel
theorem dX0_parse_48 : decode cX0_parse 48 = .ok (.iload 4, 2) := by decide +kernel
theorem dX0_parse_50 : decode cX0_parse 50 = .ok (.iastore, 1) := by decide +kernel
theorem dX0_parse_51 : decode cX0_parse 51 = .ok (.iinc 1 1, 3) := by decide +kernel
theorem dX0_parse_54 : decode cX0_parse 54 = .ok (.aload_n 0, 1) := by decide +kernel
theorem dX0_parse_55 : decode cX0_parse 55 = .ok (.dup, 1) := by decide +kernel
theorem dX0_parse_56 : decode cX0_parse 56 = .ok (.getfield 23, 3) := by decide +kernel
theorem dX0_parse_59 : decode cX0_parse 59 = .ok (.iconst 1, 1) := by decide +kernel
theorem dX0_parse_60 : decode cX0_parse 60 = .ok (.iadd, 1) := by decide +kernel
theorem dX0_parse_61 : decode cX0_parse 61 = .ok (.putfield 23, 3) := by decide +kernel
theorem dX0_parse_64 : decode cX0_parse 64 = .ok (.iconst 1, 1) := by decide +kernel
theorem dX0_parse_65 : decode cX0_parse 65 = .ok (.istore_n 2, 1) := by decide +kernel
theorem dX0_parse_66 : decode cX0_parse 66 = .ok (.goto 50, 3) := by decide +kernel
theorem dX0_parse_69 : decode cX0_parse 69 = .ok (.iload_n 2, 1) := by decide +kernel
theorem dX0_parse_70 : decode cX0_parse 70 = .ok (.ifCond .eq 17, 3) := by decide +kernel
theorem dX0_parse_73 : decode cX0_parse 73 = .ok (.aload_n 0, 1) := by decide +kernel
theorem dX0_parse_74 : decode cX0_parse 74 = .ok (.getfield 11, 3) := by decide +kernel
theorem dX0_parse_77 : decode cX0_parse 77 = .ok (.iload_n 3, 1) := by decide +kernel
theorem dX0_parse_78 : decode cX0_parse 78 = .ok (.caload, 1) := by decide +kernel
theorem dX0_parse_79 : decode cX0_parse 79 = .ok (.invokestatic 30, 3) := by decide +kernel
theorem dX0_parse_82 : decode cX0_parse 82 = .ok (.iconst 1, 1) := by decide +kernel
theorem dX0_parse_83 : decode cX0_parse 83 = .ok (.isub, 1) := by decide +kernel
theorem dX0_parse_84 : decode cX0_parse 84 = .ok (.goto 4, 3) := by decide +kernel
theorem dX0_parse_87 : decode cX0_parse 87 = .ok (.iconst (-1), 1) := by decide +kernel
theorem dX0_parse_88 : decode cX0_parse 88 = .ok (.istore 5, 2) := by decide +kernel
theorem dX0_parse_90 : decode cX0_parse 90 = .ok (.iload 5, 2) := by decide +kernel
theorem dX0_parse_92 : decode cX0_parse 92 = .ok (.ifCond .lt 12, 3) := by decide +kernel
theorem dX0_parse_95 : decode cX0_parse 95 = .ok (.iload_n 1, 1) := by decide +kernel
theorem dX0_parse_96 : decode cX0_parse 96 = .ok (.iload 5, 2) := by decide +kernel
theorem dX0_parse_98 : decode cX0_parse 98 = .ok (.iadd, 1) := by decide +kernel
theorem dX0_parse_99 : decode cX0_parse 99 = .ok (.bipush 10, 2) := by decide +kernel
theorem dX0_parse_101 : decode cX0_parse 101 = .ok (.if_icmp .le 5, 3) := by decide +kernel
theorem dX0_parse_104 : decode cX0_parse 104 = .ok (.iload_n 3, 1) := by decide +kernel
theorem dX0_parse_105 : decode cX0_parse 105 = .ok (.ireturn, 1) := by decide +kernel
theorem dX0_parse_106 : decode cX0_parse 106 = .ok (.aload_n 0, 1) := by decide +kernel
theorem dX0_parse_107 : decode cX0_parse 107 = .ok (.iload_n 1, 1) := by decide +kernel
theorem dX0_parse_108 : decode cX0_parse 108 = .ok (.iload 5, 2) := by decide +kernel
theorem dX0_parse_110 : decode cX0_parse 110 = .ok (.invokevirtual 33, 3) := by decide +kernel
theorem dX0_parse_113 : decode cX0_parse 113 = .ok (.istore_n 1, 1) := by decide +kernel
theorem dX0_parse_114 : decode cX0_parse 114 = .ok (.iconst 0, 1) := by decide +kernel
theorem dX0_parse_115 : decode cX0_parse 115 = .ok (.istore_n 2, 1) := by decide +kernel
theorem dX0_parse_116 : decode cX0_parse 116 = .ok (.iinc 3 1, 3) := by decide +kernel
theorem dX0_parse_119 : decode cX0_parse 119 = .ok (.goto (-108), 3) := by decide +kernel
theorem dX0_parse_122 : decode cX0_parse 122 = .ok (.iload_n 1, 1) := by decide +kernel
theorem dX0_parse_123 : decode cX0_parse 123 = .ok (.bipush 10, 2) := by decide +kernel
theorem dX0_parse_125 : decode cX0_parse 125 = .ok (.if_icmp .ge 10, 3) := by decide +kernel
theorem dX0_parse_128 : decode cX0_parse 128 = .ok (.aload_n 0, 1) := by decide +kernel
theorem dX0_parse_129 : decode cX0_parse 129 = .ok (.getfield 19, 3) := by decide +kernel
theorem dX0_parse_132 : decode cX0_parse 132 = .ok (.goto 4, 3) := by decide +kernel
theorem dX0_parse_135 : decode cX0_parse 135 = .ok (.iconst (-1), 1) := by decide +kernel
theorem dX0_parse_136 : decode cX0_parse 136 = .ok (.ireturn, 1) := by decide +kernel
theorem dX0_repeatBar_0 : decode cX0_repeatBar 0 = .ok (.iload_n 1, 1) := by decide +kernel
theorem dX0_repeatBar_1 : decode cX0_repeatBar 1 = .ok (.iload_n 2, 1) := by decide +kernel
theorem dX0_repeatBar_2 : decode cX0_repeatBar 2 = .ok (.iadd, 1) := by decide +kernel
theorem dX0_repeatBar_3 : decode cX0_repeatBar 3 = .ok (.istore_n 3, 1) := by decide +kernel
theorem dX0_repeatBar_4 : decode cX0_repeatBar 4 = .ok (.iload_n 1, 1) := by decide +kernel
theorem dX0_repeatBar_5 : decode cX0_repeatBar 5 = .ok (.istore 4, 2) := by decide +kernel
theorem dX0_repeatBar_7 : decode cX0_repeatBar 7 = .ok (.iload 4, 2) := by decide +kernel
theorem dX0_repeatBar_9 : decode cX0_repeatBar 9 = .ok (.ifCond .le 38, 3) := by decide +kernel
theorem dX0_repeatBar_12 : decode cX0_repeatBar 12 = .ok (.iload 4, 2) := by decide +kernel
theorem dX0_repeatBar_14 : decode cX0_repeatBar 14 = .ok (.iload_n 3, 1) := by decide +kernel
theorem dX0_repeatBar_15 : decode cX0_repeatBar 15 = .ok (.if_icmp .ge 32, 3) := by decide +kernel
theorem dX0_repeatBar_18 : decode cX0_repeatBar 18 = .ok (.iload 4, 2) := by decide +kernel
theorem dX0_repeatBar_20 : decode cX0_repeatBar 20 = .ok (.bipush 10, 2) := by decide +kernel
theorem dX0_repeatBar_22 : decode cX0_repeatBar 22 = .ok (.if_icmp .ge 25, 3) := by decide +kernel
theorem dX0_repeatBar_25 : decode cX0_repeatBar 25 = .ok (.aload_n 0, 1) := by decide +kernel
theorem dX0_repeatBar_26 : decode cX0_repeatBar 26 = .ok (.getfield 15, 3) := by decide +kernel
theorem dX0_repeatBar_29 : decode cX0_repeatBar 29 = .ok (.iload 4, 2) := by decide +kernel
theorem dX0_repeatBar_31 : decode cX0_repeatBar 31 = .ok (.aload_n 0, 1) := by decide +kernel
theorem dX0_repeatBar_32 : decode cX0_repeatBar 32 = .ok (.getfield 15, 3) := by decide +kernel
theorem dX0_repeatBar_35 : decode cX0_repeatBar 35 = .ok (.iload 4, 2) := by decide +kernel
theorem dX0_repeatBar_37 : decode cX0_repeatBar 37 = .ok (.iconst 1, 1) := by decide +kernel
theorem dX0_repeatBar_38 : decode cX0_repeatBar 38 = .ok (.isub, 1) := by decide +kernel
theorem dX0_repeatBar_39 : decode cX0_repeatBar 39 = .ok (.iaload, 1) := by decide +kernel
theorem dX0_repeatBar_40 : decode cX0_repeatBar 40 = .ok (.iastore, 1) := by decide +kernel
theorem dX0_repeatBar_41 : decode cX0_repeatBar 41 = .ok (.iinc 4 1, 3) := by decide +kernel
theorem dX0_repeatBar_44 : decode cX0_repeatBar 44 = .ok (.goto (-37), 3) := by decide +kernel
theorem dX0_repeatBar_47 : decode cX0_repeatBar 47 = .ok (.iload_n 3, 1) := by decide +kernel
theorem dX0_repeatBar_48 : decode cX0_repeatBar 48 = .ok (.ireturn, 1) := by decide +kernel
theorem dX0_paintBar_0 : decode cX0_paintBar 0 = .ok (.aload_n 0, 1) := by decide +kernel
theorem dX0_paintBar_1 : decode cX0_paintBar 1 = .ok (.getfield 15, 3) := by decide +kernel
theorem dX0_paintBar_4 : decode cX0_paintBar 4 = .ok (.iload_n 3, 1) := by decide +kernel
theorem dX0_paintBar_5 : decode cX0_paintBar 5 = .ok (.iaload, 1) := by decide +kernel
theorem dX0_paintBar_6 : decode cX0_paintBar 6 = .ok (.istore 4, 2) := by decide +kernel
theorem dX0_paintBar_8 : decode cX0_paintBar 8 = .ok (.aload_n 1, 1) := by decide +kernel
theorem dX0_paintBar_9 : decode cX0_paintBar 9 = .ok (.iload_n 2, 1) := by decide +kernel
theorem dX0_paintBar_10 : decode cX0_paintBar 10 = .ok (.getstatic 37, 3) := by decide +kernel
theorem dX0_paintBar_13 : decode cX0_paintBar 13 = .ok (.iload 4, 2) := by decide +kernel
theorem dX0_paintBar_15 : decode cX0_paintBar 15 = .ok (.iaload, 1) := by decide +kernel
theorem dX0_paintBar_16 : decode cX0_paintBar 16 = .ok (.getstatic 40, 3) := by decide +kernel
theorem dX0_paintBar_19 : decode cX0_paintBar 19 = .ok (.iload 4, 2) := by decide +kernel
theorem dX0_paintBar_21 : decode cX0_paintBar 21 = .ok (.iaload, 1) := by decide +kernel
theorem dX0_paintBar_22 : decode cX0_paintBar 22 = .ok (.getstatic 43, 3) := by decide +kernel
theorem dX0_paintBar_25 : decode cX0_paintBar 25 = .ok (.iload 4, 2) := by decide +kernel
theorem dX0_paintBar_27 : decode cX0_paintBar 27 = .ok (.iaload, 1) := by decide +kernel
theorem dX0_paintBar_28 : decode cX0_paintBar 28 = .ok (.invokevirtual 46, 3) := by decide +kernel
theorem dX0_paintBar_31 : decode cX0_paintBar 31 = .ok (.pop, 1) := by decide +kernel
theorem dX0_paintBar_32 : decode cX0_paintBar 32 = .ok (.return_, 1) := by decide +kernel
theorem dX0_barOf_0 : decode cX0_barOf 0 = .ok (.iconst 0, 1) := by decide +kernel
theorem dX0_barOf_1 : decode cX0_barOf 1 = .ok (.istore_n 1, 1) := by decide +kernel
theorem dX0_barOf_2 : decode cX0_barOf 2 = .ok (.iload_n 1, 1) := by decide +kernel
theorem dX0_barOf_3 : decode cX0_barOf 3 = .ok (.getstatic 52, 3) := by decide +kernel
theorem dX0_barOf_6 : decode cX0_barOf 6 = .ok (.arraylength, 1) := by decide +kernel
theorem dX0_barOf_7 : decode cX0_barOf 7 = .ok (.if_icmp .ge 20, 3) := by decide +kernel
theorem dX0_barOf_10 : decode cX0_barOf 10 = .ok (.getstatic 52, 3) := by decide +kernel
theorem dX0_barOf_13 : decode cX0_barOf 13 = .ok (.iload_n 1, 1) := by decide +kernel
theorem dX0_barOf_14 : decode cX0_barOf 14 = .ok (.caload, 1) := by decide +kernel
theorem dX0_barOf_15 : decode cX0_barOf 15 = .ok (.iload_n 0, 1) := by decide +kernel
theorem dX0_barOf_16 : decode cX0_barOf 16 = .ok (.if_icmp .ne 5, 3) := by decide +kernel
theorem dX0_barOf_19 : decode cX0_barOf 19 = .ok (.iload_n 1, 1) := by decide +kernel
theorem dX0_barOf_20 : decode cX0_barOf 20 = .ok (.ireturn, 1) := by decide +kernel
theorem dX0_barOf_21 : decode cX0_barOf 21 = .ok (.iinc 1 1, 3) := by decide +kernel
theorem dX0_barOf_24 : decode cX0_barOf 24 = .ok (.goto (-22), 3) := by decide +kernel
theorem dX0_barOf_27 : decode cX0_barOf 27 = .ok (.iconst (-1), 1) := by decide +kernel
theorem dX0_barOf_28 : decode cX0_barOf 28 = .ok (.ireturn, 1) := by decide +kernel
theorem dX0_digitOf_0 : decode cX0_digitOf 0 = .ok (.iload_n 0, 1) := by decide +kernel
theorem dX0_digitOf_1 : decode cX0_digitOf 1 = .ok (.bipush 49, 2) := by decide +kernel
theorem dX0_digitOf_3 : decode cX0_digitOf 3 = .ok (.if_icmp .lt 16, 3) := by decide +kernel
theorem dX0_digitOf_6 : decode cX0_digitOf 6 = .ok (.iload_n 0, 1) := by decide +kernel
theorem dX0_digitOf_7 : decode cX0_digitOf 7 = .ok (.bipush 57, 2) := by decide +kernel
theorem dX0_digitOf_9 : decode cX0_digitOf 9 = .ok (.if_icmp .gt 10, 3) := by decide +kernel
theorem dX0_digitOf_12 : decode cX0_digitOf 12 = .ok (.iload_n 0, 1) := by decide +kernel
theorem dX0_digitOf_13 : decode cX0_digitOf 13 = .ok (.bipush 48, 2) := by decide +kernel
theorem dX0_digitOf_15 : decode cX0_digitOf 15 = .ok (.isub, 1) := by decide +kernel
theorem dX0_digitOf_16 : decode cX0_digitOf 16 = .ok (.goto 4, 3) := by decide +kernel
theorem dX0_digitOf_19 : decode cX0_digitOf 19 = .ok (.iconst 0, 1) := by decide +kernel
theorem dX0_digitOf_20 : decode cX0_digitOf 20 = .ok (.ireturn, 1) := by decide +kernel
theorem dX1_init_0 : decode cX1_init 0 = .ok (.aload_n 0, 1) := by decide +kernel
theorem dX1_init_1 : decode cX1_init 1 = .ok (.invokespecial 3, 3) := by decide +kernel
theorem dX1_init_4 : decode cX1_init 4 = .ok (.aload_n 0, 1) := by decide +kernel
theorem dX1_init_5 : decode cX1_init 5 = .ok (.bipush 8, 2) := by decide +kernel
theorem dX1_init_7 : decode cX1_init 7 = .ok (.newarray .int, 2) := by decide +kernel
theorem dX1_init_9 : decode cX1_init 9 = .ok (.putfield 9, 3) := by decide +kernel
theorem dX1_init_12 : decode cX1_init 12 = .ok (.aload_n 0, 1) := by decide +kernel
theorem dX1_init_13 : decode cX1_init 13 = .ok (.bipush 8, 2) := by decide +kernel
theorem dX1_init_15 : decode cX1_init 15 = .ok (.newarray .int, 2) := by decide +kernel
theorem dX1_init_17 : decode cX1_init 17 = .ok (.putfield 15, 3) := by decide +kernel
theorem dX1_init_20 : decode cX1_init 20 = .ok (.aload_n 0, 1) := by decide +kernel
theorem dX1_init_21 : decode cX1_init 21 = .ok (.bipush 8, 2) := by decide +kernel
theorem dX1_init_23 : decode cX1_init 23 = .ok (.newarray .boolean, 2) := by decide +kernel
theorem dX1_init_25 : decode cX1_init 25 = .ok (.putfield 18, 3) := by decide +kernel
theorem dX1_init_28 : decode cX1_init 28 = .ok (.aload_n 0, 1) := by decide +kernel
theorem dX1_init_29 : decode cX1_init 29 = .ok (.bipush 8, 2) := by decide +kernel
theorem dX1_init_31 : decode cX1_init 31 = .ok (.newarray .boolean, 2) := by decide +kernel
theorem dX1_init_33 : decode cX1_init 33 = .ok (.putfield 22, 3) := by decide +kernel
theorem dX1_init_36 : decode cX1_init 36 = .ok (.return_, 1) := by decide +kernel
theorem dX1_measure_0 : decode cX1_measure 0 = .ok (.aload_n 0, 1) := by decide +kernel
theorem dX1_measure_1 : decode cX1_measure 1 = .ok (.iconst 0, 1) := by decide +kernel
theorem dX1_measure_2 : decode cX1_measure 2 = .ok (.putfield 25, 3) := by decide +kernel
theorem dX1_measure_5 : decode cX1_measure 5 = .ok (.aload_n 0, 1) := by decide +kernel
theorem dX1_measure_6 : decode cX1_measure 6 = .ok (.iconst 0, 1) := by decide +kernel
theorem dX1_measure_7 : decode cX1_measure 7 = .ok (.putfield 29, 3) := by decide +kernel
theorem dX1_measure_10 : decode cX1_measure 10 = .ok (.iconst 1, 1) := by decide +kernel
theorem dX1_measure_11 : decode cX1_measure 11 = .ok (.istore 4, 2) := by decide +kernel
theorem dX1_measure_13 : decode cX1_measure 13 = .ok (.iconst 0, 1) := by decide +kernel
theorem dX1_measure_14 : decode cX1_measure 14 = .ok (.istore 5, 2) := by decide +kernel
theorem dX1_measure_16 : decode cX1_measure 16 = .ok (.iload 5, 2) := by decide +kernel
theorem dX1_measure_18 : decode cX1_measure 18 = .ok (.bipush 8, 2) := by decide +kernel
theorem dX1_measure_20 : decode cX1_measure 20 = .ok (.if_icmp .ge 111, 3) := by decide +kernel
theorem dX1_measure_23 : decode cX1_measure 23 = .ok (.aload_n 0, 1) := by decide +kernel
theorem dX1_measure_24 : decode cX1_measure 24 = .ok (.aload_n 1, 1) := by decide +kernel
theorem dX1_measure_25 : decode cX1_measure 25 = .ok (.iload 5, 2) := by decide +kernel
theorem dX1_measure_27 : decode cX1_measure 27 = .ok (.aload_n 2, 1) := by decide +kernel
theorem dX1_measure_28 : decode cX1_measure 28 = .ok (.iload 5, 2) := by decide +kernel
theorem dX1_measure_30 : decode cX1_measure 30 = .ok (.iaload, 1) := by decide +kernel
theorem dX1_measure_31 : decode cX1_measure 31 = .ok (.bipush 8, 2) := by decide +kernel
theorem dX1_measure_33 : decode cX1_measure 33 = .ok (.iadd, 1) := by decide +kernel
theorem dX1_measure_34 : decode cX1_measure 34 = .ok (.invokevirtual 32, 3) := by decide +kernel
theorem dX1_measure_37 : decode cX1_measure 37 = .ok (.aload_n 0, 1) := by decide +kernel
theorem dX1_measure_38 : decode cX1_measure 38 = .ok (.getfield 18, 3) := by decide +kernel
theorem dX1_measure_41 : decode cX1_measure 41 = .ok (.iload 5, 2) := by decide +kernel
theorem dX1_measure_43 : decode cX1_measure 43 = .ok (.aload_n 0, 1) := by decide +kernel
theorem dX1_measure_44 : decode cX1_measure 44 = .ok (.getfield 9, 3) := by decide +kernel
theorem dX1_measure_47 : decode cX1_measure 47 = .ok (.iload 5, 2) := by decide +kernel
theorem dX1_measure_49 : decode cX1_measure 49 = .ok (.iaload, 1) := by decide +kernel
theorem dX1_measure_50 : decode cX1_measure 50 = .ok (.invokestatic 36, 3) := by decide +kernel
theorem dX1_measure_53 : decode cX1_measure 53 = .ok (.aload_n 0, 1) := by decide +kernel
theorem dX1_measure_54 : decode cX1_measure 54 = .ok (.getfield 15, 3) := by decide +kernel
theorem dX1_measure_57 : decode cX1_measure 57 = .ok (.iload 5, 2) := by decide +kernel
theorem dX1_measure_59 : decode cX1_measure 59 = .ok (.iaload, 1) := by decide +kernel
theorem dX1_measure_60 : decode cX1_measure 60 = .ok (.invokestatic 36, 3) := by decide +kernel
theorem dX1_measure_63 : decode cX1_measure 63 = .ok (.iadd, 1) := by decide +kernel
theorem dX1_measure_64 : decode cX1_measure 64 = .ok (.iconst 4, 1) := by decide +kernel
theorem dX1_measure_65 : decode cX1_measure 65 = .ok (.iload_n 3, 1) := by decide +kernel
theorem dX1_measure_66 : decode cX1_measure 66 = .ok (.imul, 1) := by decide +kernel
theorem dX1_measure_67 : decode cX1_measure 67 = .ok (.if_icmp .lt 7, 3) := by decide +kernel
theorem dX1_measure_70 : decode cX1_measure 70 = .ok (.iconst 1, 1) := by decide +kernel
theorem dX1_measure_71 : decode cX1_measure 71 = .ok (.goto 4, 3) := by decide +kernel
theorem dX1_measure_74 : decode cX1_measure 74 = .ok (.iconst 0, 1) := by decide +kernel
theorem dX1_measure_75 : decode cX1_measure 75 = .ok (.bastore, 1) := by decide +kernel
theorem dX1_measure_76 : decode cX1_measure 76 = .ok (.iload 5, 2) := by decide +kernel
theorem dX1_measure_78 : decode cX1_measure 78 = .ok (.ifCond .le 38, 3) := by decide +kernel
theorem dX1_measure_81 : decode cX1_measure 81 = .ok (.aload_n 0, 1) := by decide +kernel
theorem dX1_measure_82 : decode cX1_measure 82 = .ok (.getfield 18, 3) := by decide +kernel
theorem dX1_measure_85 : decode cX1_measure 85 = .ok (.iload 5, 2) := by decide +kernel
theorem dX1_measure_87 : decode cX1_measure 87 = .ok (.baload, 1) := by decide +kernel
theorem dX1_measure_88 : decode cX1_measure 88 = .ok (.aload_n 0, 1) := by decide +kernel
theorem dX1_measure_89 : decode cX1_measure 89 = .ok (.getfield 18, 3) := by decide +kernel
theorem dX1_measure_92 : decode cX1_measure 92 = .ok (.iload 5, 2) := by decide +kernel
theorem dX1_measure_94 : decode cX1_measure 94 = .ok (.iconst 1, 1) := by decide +kernel
theorem dX1_measure_95 : decode cX1_measure 95 = .ok (.isub, 1) := by decide +kernel
theorem dX1_measure_96 : decode cX1_measure 96 = .ok (.baload, 1) := by decide +kernel
theorem dX1_measure_97 : decode cX1_measure 97 = .ok (.if_icmp .ne 19, 3) := by decide +kernel
theorem dX1_measure_100 : decode cX1_measure 100 = .ok (.aload_n 0, 1) := by decide +kernel
theorem dX1_measure_101 : decode cX1_measure 101 = .ok (.getfield 18, 3) := by decide +kernel
theorem dX1_measure_104 : decode cX1_measure 104 = .ok (.iload 5, 2) := by decide +kernel
theorem dX1_measure_106 : decode cX1_measure 106 = .ok (.baload, 1) := by decide +kernel
theorem dX1_measure_107 : decode cX1_measure 107 = .ok (.istore 4, 2) := by decide +kernel
theorem dX1_measure_109 : decode cX1_measure 109 = .ok (.aload_n 0, 1) := by decide +kernel
theorem dX1_measure_110 : decode cX1_measure 110 = .ok (.iload 5, 2) := by decide +kernel
theorem dX1_measure_112 : decode cX1_measure 112 = .ok (.iload_n 3, 1) := by decide +kernel
theorem dX1_measure_113 : decode cX1_measure 113 = .ok (.invokevirtual 42, 3) := by decide +kernel
theorem dX1_measure_116 : decode cX1_measure 116 = .ok (.aload_n 0, 1) := by decide +kernel
theorem dX1_measure_117 : decode cX1_measure 117 = .ok (.getfield 22, 3) := by decide +kernel
theorem dX1_measure_120 : decode cX1_measure 120 = .ok (.iload 5, 2) := by decide +kernel
theorem dX1_measure_122 : decode cX1_measure 122 = .ok (.iload 4, 2) := by decide +kernel
theorem dX1_measure_124 : decode cX1_measure 124 = .ok (.bastore, 1) := by decide +kernel
theorem dX1_measure_125 : decode cX1_measure 125 = .ok (.iinc 5 1, 3) := by decide +kernel
theorem dX1_measure_128 : decode cX1_measure 128 = .ok (.goto (-112), 3) := by decide +kernel
theorem dX1_measure_131 : decode cX1_measure 131 = .ok (.return_, 1) := by decide +kernel
theorem dX1_sumUp_0 : decode cX1_sumUp 0 = .ok (.iconst 0, 1) := by decide +kernel
theorem dX1_sumUp_1 : decode cX1_sumUp 1 = .ok (.istore 4, 2) := by decide +kernel
theorem dX1_sumUp_3 : decode cX1_sumUp 3 = .ok (.iconst 0, 1) := by decide +kernel
theorem dX1_sumUp_4 : decode cX1_sumUp 4 = .ok (.istore 5, 2) := by decide +kernel
theorem dX1_sumUp_6 : decode cX1_sumUp 6 = .ok (.iload_n 3, 1) := by decide +kernel
theorem dX1_sumUp_7 : decode cX1_sumUp 7 = .ok (.istore 6, 2) := by decide +kernel
theorem dX1_sumUp_9 : decode cX1_sumUp 9 = .ok (.iload 6, 2) := by decide +kernel
theorem dX1_sumUp_11 : decode cX1_sumUp 11 = .ok (.iload_n 3, 1) := by decide +kernel
theorem dX1_sumUp_12 : decode cX1_sumUp 12 = .ok (.bipush 8, 2) := by decide +kernel
theorem dX1_sumUp_14 : decode cX1_sumUp 14 = .ok (.iadd, 1) := by decide +kernel
theorem dX1_sumUp_15 : decode cX1_sumUp 15 = .ok (.if_icmp .ge 54, 3) := by decide +kernel
theorem dX1_sumUp_18 : decode cX1_sumUp 18 = .ok (.aload_n 1, 1) := by decide +kernel
theorem dX1_sumUp_19 : decode cX1_sumUp 19 = .ok (.iload_n 2, 1) := by decide +kernel
theorem dX1_sumUp_20 : decode cX1_sumUp 20 = .ok (.iload 6, 2) := by decide +kernel
theorem dX1_sumUp_22 : decode cX1_sumUp 22 = .ok (.invokevirtual 46, 3) := by decide +kernel
theorem dX1_sumUp_25 : decode cX1_sumUp 25 = .ok (.istore 7, 2) := by decide +kernel
theorem dX1_sumUp_27 : decode cX1_sumUp 27 = .ok (.iload_n 2, 1) := by decide +kernel
theorem dX1_sumUp_28 : decode cX1_sumUp 28 = .ok (.iload 6, 2) := by decide +kernel
theorem dX1_sumUp_30 : decode cX1_sumUp 30 = .ok (.invokestatic 52, 3) := by decide +kernel
theorem dX1_sumUp_33 : decode cX1_sumUp 33 = .ok (.istore 8, 2) := by decide +kernel
theorem dX1_sumUp_35 : decode cX1_sumUp 35 = .ok (.iload 4, 2) := by decide +kernel
theorem dX1_sumUp_37 : decode cX1_sumUp 37 = .ok (.iload 7, 2) := by decide +kernel
theorem dX1_sumUp_39 : decode cX1_sumUp 39 = .ok (.getstatic 55, 3) := by decide +kernel
theorem dX1_sumUp_42 : decode cX1_sumUp 42 = .ok (.iload 8, 2) := by decide +kernel
theorem dX1_sumUp_44 : decode cX1_sumUp 44 = .ok (.iaload, 1) := by decide +kernel
theorem dX1_sumUp_45 : decode cX1_sumUp 45 = .ok (.imul, 1) := by decide +kernel
theorem dX1_sumUp_46 : decode cX1_sumUp 46 = .ok (.iadd, 1) := by decide +kernel
theorem dX1_sumUp_47 : decode cX1_sumUp 47 = .ok (.istore 4, 2) := by decide +kernel
theorem dX1_sumUp_49 : decode cX1_sumUp 49 = .ok (.iload 5, 2) := by decide +kernel
theorem dX1_sumUp_51 : decode cX1_sumUp 51 = .ok (.iload 7, 2) := by decide +kernel
theorem dX1_sumUp_53 : decode cX1_sumUp 53 = .ok (.getstatic 58, 3) := by decide +kernel
theorem dX1_sumUp_56 : decode cX1_sumUp 56 = .ok (.iload 8, 2) := by decide +kernel
theorem dX1_sumUp_58 : decode cX1_sumUp 58 = .ok (.iaload, 1) := by decide +kernel
theorem dX1_sumUp_59 : decode cX1_sumUp 59 = .ok (.imul, 1) := by decide +kernel
theorem dX1_sumUp_60 : decode cX1_sumUp 60 = .ok (.iadd, 1) := by decide +kernel
theorem dX1_sumUp_61 : decode cX1_sumUp 61 = .ok (.istore 5, 2) := by decide +kernel
theorem dX1_sumUp_63 : decode cX1_sumUp 63 = .ok (.iinc 6 1, 3) := by decide +kernel
theorem dX1_sumUp_66 : decode cX1_sumUp 66 = .ok (.goto (-57), 3) := by decide +kernel
theorem dX1_sumUp_69 : decode cX1_sumUp 69 = .ok (.aload_n 0, 1) := by decide +kernel
theorem dX1_sumUp_70 : decode cX1_sumUp 70 = .ok (.getfield 9, 3) := by decide +kernel
theorem dX1_sumUp_73 : decode cX1_sumUp 73 = .ok (.iload_n 2, 1) := by decide +kernel
theorem dX1_sumUp_74 : decode cX1_sumUp 74 = .ok (.iload 4, 2) := by decide +kernel
theorem dX1_sumUp_76 : decode cX1_sumUp 76 = .ok (.iastore, 1) := by decide +kernel
theorem dX1_sumUp_77 : decode cX1_sumUp 77 = .ok (.aload_n 0, 1) := by decide +kernel
theorem dX1_sumUp_78 : decode cX1_sumUp 78 = .ok (.getfield 15, 3) := by decide +kernel
theorem dX1_sumUp_81 : decode cX1_sumUp 81 = .ok (.iload_n 2, 1) := by decide +kernel
theorem dX1_sumUp_82 : decode cX1_sumUp 82 = .ok (.iload 5, 2) := by decide +kernel
theorem dX1_sumUp_84 : decode cX1_sumUp 84 = .ok (.iastore, 1) := by decide +kernel
theorem dX1_sumUp_85 : decode cX1_sumUp 85 = .ok (.return_, 1) := by decide +kernel
theorem dX1_countPair_0 : decode cX1_countPair 0 = .ok (.iload_n 1, 1) := by decide +kernel
theorem dX1_countPair_1 : decode cX1_countPair 1 = .ok (.iconst 1, 1) := by decide +kernel
theorem dX1_countPair_2 : decode cX1_countPair 2 = .ok (.if_icmp .lt 23, 3) := by decide +kernel
theorem dX1_countPair_5 : decode cX1_countPair 5 = .ok (.aload_n 0, 1) := by decide +kernel
theorem dX1_countPair_6 : decode cX1_countPair 6 = .ok (.getfield 18, 3) := by decide +kernel
theorem dX1_countPair_9 : decode cX1_countPair 9 = .ok (.iload_n 1, 1) := by decide +kernel
theorem dX1_countPair_10 : decode cX1_countPair 10 = .ok (.baload, 1) := by decide +kernel
theorem dX1_countPair_11 : decode cX1_countPair 11 = .ok (.ifCond .eq 14, 3) := by decide +kernel
theorem dX1_countPair_14 : decode cX1_countPair 14 = .ok (.aload_n 0, 1) := by decide +kernel
theorem dX1_countPair_15 : decode cX1_countPair 15 = .ok (.getfield 18, 3) := by decide +kernel
theorem dX1_countPair_18 : decode cX1_countPair 18 = .ok (.iload_n 1, 1) := by decide +kernel
theorem dX1_countPair_19 : decode cX1_countPair 19 = .ok (.iconst 1, 1) := by decide +kernel
theorem dX1_countPair_20 : decode cX1_countPair 20 = .ok (.isub, 1) := by decide +kernel
theorem dX1_countPair_21 : decode cX1_countPair 21 = .ok (.baload, 1) := by decide +kernel
theorem dX1_countPair_22 : decode cX1_countPair 22 = .ok (.ifCond .ne 4, 3) := by decide +kernel
theorem dX1_countPair_25 : decode cX1_countPair 25 = .ok (.return_, 1) := by decide +kernel
theorem dX1_countPair_26 : decode cX1_countPair 26 = .ok (.aload_n 0, 1) := by decide +kernel
theorem dX1_countPair_27 : decode cX1_countPair 27 = .ok (.getfield 15, 3) := by decide +kernel
theorem dX1_countPair_30 : decode cX1_countPair 30 = .ok (.iload_n 1, 1) := by decide +kernel
theorem dX1_countPair_31 : decode cX1_countPair 31 = .ok (.iconst 1, 1) := by decide +kernel
theorem dX1_countPair_32 : decode cX1_countPair 32 = .ok (.isub, 1) := by decide +kernel
theorem dX1_countPair_33 : decode cX1_countPair 33 = .ok (.iaload, 1) := by decide +kernel
theorem dX1_countPair_34 : decode cX1_countPair 34 = .ok (.istore_n 3, 1) := by decide +kernel
theorem dX1_countPair_35 : decode cX1_countPair 35 = .ok (.aload_n 0, 1) := by decide +kernel
theorem dX1_countPair_36 : decode cX1_countPair 36 = .ok (.getfield 15, 3) := by decide +kernel
theorem dX1_countPair_39 : decode cX1_countPair 39 = .ok (.iload_n 1, 1) := by decide +kernel
theorem dX1_countPair_40 : decode cX1_countPair 40 = .ok (.iaload, 1) := by decide +kernel
theorem dX1_countPair_41 : decode cX1_countPair 41 = .ok (.istore 4, 2) := by decide +kernel
theorem dX1_countPair_43 : decode cX1_countPair 43 = .ok (.iload_n 3, 1) := by decide +kernel
theorem dX1_countPair_44 : decode cX1_countPair 44 = .ok (.iload 4, 2) := by decide +kernel
theorem dX1_countPair_46 : decode cX1_countPair 46 = .ok (.imul, 1) := by decide +kernel
theorem dX1_countPair_47 : decode cX1_countPair 47 = .ok (.ifCond .ge 33, 3) := by decide +kernel
theorem dX1_countPair_50 : decode cX1_countPair 50 = .ok (.iload_n 3, 1) := by decide +kernel
theorem dX1_countPair_51 : decode cX1_countPair 51 = .ok (.invokestatic 36, 3) := by decide +kernel
theorem dX1_countPair_54 : decode cX1_countPair 54 = .ok (.iload_n 2, 1) := by decide +kernel
theorem dX1_countPair_55 : decode cX1_countPair 55 = .ok (.if_icmp .lt 25, 3) := by decide +kernel
theorem dX1_countPair_58 : decode cX1_countPair 58 = .ok (.iload 4, 2) := by decide +kernel
theorem dX1_countPair_60 : decode cX1_countPair 60 = .ok (.invokestatic 36, 3) := by decide +kernel
theorem dX1_countPair_63 : decode cX1_countPair 63 = .ok (.iload_n 2, 1) := by decide +kernel
theorem dX1_countPair_64 : decode cX1_countPair 64 = .ok (.if_icmp .lt 16, 3) := by decide +kernel
theorem dX1_countPair_67 : decode cX1_countPair 67 = .ok (.aload_n 0, 1) := by decide +kernel
theorem dX1_countPair_68 : decode cX1_countPair 68 = .ok (.dup, 1) := by decide +kernel
theorem dX1_countPair_69 : decode cX1_countPair 69 = .ok (.getfield 25, 3) := by decide +kernel
theorem dX1_countPair_72 : decode cX1_countPair 72 = .ok (.iconst 1, 1) := by decide +kernel
theorem dX1_countPair_73 : decode cX1_countPair 73 = .ok (.iadd, 1) := by decide +kernel
theorem dX1_countPair_74 : decode cX1_countPair 74 = .ok (.putfield 25, 3) := by decide +kernel
theorem dX1_countPair_77 : decode cX1_countPair 77 = .ok (.goto 13, 3) := by decide +kernel
theorem dX1_countPair_80 : decode cX1_countPair 80 = .ok (.aload_n 0, 1) := by decide +kernel
theorem dX1_countPair_81 : decode cX1_countPair 81 = .ok (.dup, 1) := by decide +kernel
theorem dX1_countPair_82 : decode cX1_countPair 82 = .ok (.getfield 29, 3) := by decide +kernel
theorem dX1_countPair_85 : decode cX1_countPair 85 = .ok (.iconst 1, 1) := by decide +kernel
theorem dX1_countPair_86 : decode cX1_countPair 86 = .ok (.iadd, 1) := by decide +kernel
theorem dX1_countPair_87 : decode cX1_countPair 87 = .ok (.putfield 29, 3) := by decide +kernel
theorem dX1_countPair_90 : decode cX1_countPair 90 = .ok (.return_, 1) := by decide +kernel
theorem dX1_guessedStandard_0 : decode cX1_guessedStandard 0 = .ok (.aload_n 0, 1) := by decide +kernel
theorem dX1_guessedStandard_1 : decode cX1_guessedStandard 1 = .ok (.getfield 25, 3) := by decide +kernel
theorem dX1_guessedStandard_4 : decode cX1_guessedStandard 4 = .ok (.aload_n 0, 1) := by decide +kernel
theorem dX1_guessedStandard_5 : decode cX1_guessedStandard 5 = .ok (.getfield 29, 3) := by decide +kernel
theorem dX1_guessedStandard_8 : decode cX1_guessedStandard 8 = .ok (.if_icmp .le 7, 3) := by decide +kernel
theorem dX1_guessedStandard_11 : decode cX1_guessedStandard 11 = .ok (.iconst 1, 1) := by decide +kernel
theorem dX1_guessedStandard_12 : decode cX1_guessedStandard 12 = .ok (.goto 4, 3) := by decide +kernel
theorem dX1_guessedStandard_15 : decode cX1_guessedStandard 15 = .ok (.iconst 0, 1) := by decide +kernel
theorem dX1_guessedStandard_16 : decode cX1_guessedStandard 16 = .ok (.invokestatic 61, 3) := by decide +kernel
theorem dX1_guessedStandard_19 : decode cX1_guessedStandard 19 = .ok (.ireturn, 1) := by decide +kernel
theorem dX2_init_0 : decode cX2_init 0 = .ok (.aload_n 0, 1) := by decide +kernel
theorem dX2_init_1 : decode cX2_init 1 = .ok (.invokespecial 3, 3) := by decide +kernel
theorem dX2_init_4 : decode cX2_init 4 = .ok (.aload_n 0, 1) := by decide +kernel
theorem dX2_init_5 : decode cX2_init 5 = .ok (.bipush 80, 2) := by decide +kernel
theorem dX2_init_7 : decode cX2_init 7 = .ok (.newarray .float, 2) := by decide +kernel
theorem dX2_init_9 : decode cX2_init 9 = .ok (.putfield 9, 3) := by decide +kernel
theorem dX2_init_12 : decode cX2_init 12 = .ok (.aload_n 0, 1) := by decide +kernel
theorem dX2_init_13 : decode cX2_init 13 = .ok (.bipush 80, 2) := by decide +kernel
theorem dX2_init_15 : decode cX2_init 15 = .ok (.newarray .float, 2) := by decide +kernel
theorem dX2_init_17 : decode cX2_init 17 = .ok (.putfield 15, 3) := by decide +kernel
theorem dX2_init_20 : decode cX2_init 20 = .ok (.aload_n 0, 1) := by decide +kernel
theorem dX2_init_21 : decode cX2_init 21 = .ok (.bipush 80, 2) := by decide +kernel
theorem dX2_init_23 : decode cX2_init 23 = .ok (.newarray .float, 2) := by decide +kernel
theorem dX2_init_25 : decode cX2_init 25 = .ok (.putfield 18, 3) := by decide +kernel
theorem dX2_init_28 : decode cX2_init 28 = .ok (.aload_n 0, 1) := by decide +kernel
theorem dX2_init_29 : decode cX2_init 29 = .ok (.bipush 80, 2) := by decide +kernel
theorem dX2_init_31 : decode cX2_init 31 = .ok (.newarray .float, 2) := by decide +kernel
theorem dX2_init_33 : decode cX2_init 33 = .ok (.putfield 21, 3) := by decide +kernel
theorem dX2_init_36 : decode cX2_init 36 = .ok (.return_, 1) := by decide +kernel
theorem dX2_turn_0 : decode cX2_turn 0 = .ok (.iconst 0, 1) := by decide +kernel
theorem dX2_turn_1 : decode cX2_turn 1 = .ok (.istore 5, 2) := by decide +kernel
theorem dX2_turn_3 : decode cX2_turn 3 = .ok (.iload 5, 2) := by decide +kernel
theorem dX2_turn_5 : decode cX2_turn 5 = .ok (.bipush 8, 2) := by decide +kernel
theorem dX2_turn_7 : decode cX2_turn 7 = .ok (.if_icmp .ge 140, 3) := by decide +kernel
theorem dX2_turn_10 : decode cX2_turn 10 = .ok (.aload_n 2, 1) := by decide +kernel
theorem dX2_turn_11 : decode cX2_turn 11 = .ok (.getfield 24, 3) := by decide +kernel
theorem dX2_turn_14 : decode cX2_turn 14 = .ok (.iload 5, 2) := by decide +kernel
theorem dX2_turn_16 : decode cX2_turn 16 = .ok (.baload, 1) := by decide +kernel
theorem dX2_turn_17 : decode cX2_turn 17 = .ok (.ifCond .eq 13, 3) := by decide +kernel
theorem dX2_turn_20 : decode cX2_turn 20 = .ok (.aload_n 3, 1) := by decide +kernel
theorem dX2_turn_21 : decode cX2_turn 21 = .ok (.getfield 30, 3) := by decide +kernel
theorem dX2_turn_24 : decode cX2_turn 24 = .ok (.iload 5, 2) := by decide +kernel
theorem dX2_turn_26 : decode cX2_turn 26 = .ok (.faload, 1) := by decide +kernel
theorem dX2_turn_27 : decode cX2_turn 27 = .ok (.goto 4, 3) := by decide +kernel
theorem dX2_turn_30 : decode cX2_turn 30 = .ok (.fconst 0, 1) := by decide +kernel
theorem dX2_turn_31 : decode cX2_turn 31 = .ok (.fstore 6, 2) := by decide +kernel
theorem dX2_turn_33 : decode cX2_turn 33 = .ok (.aload_n 2, 1) := by decide +kernel
theorem dX2_turn_34 : decode cX2_turn 34 = .ok (.getfield 24, 3) := by decide +kernel
theorem dX2_turn_37 : decode cX2_turn 37 = .ok (.iload 5, 2) := by decide +kernel
theorem dX2_turn_39 : decode cX2_turn 39 = .ok (.baload, 1) := by decide +kernel
theorem dX2_turn_40 : decode cX2_turn 40 = .ok (.ifCond .eq 13, 3) := by decide +kernel
theorem dX2_turn_43 : decode cX2_turn 43 = .ok (.aload_n 3, 1) := by decide +kernel
theorem dX2_turn_44 : decode cX2_turn 44 = .ok (.getfield 35, 3) := by decide +kernel
theorem dX2_turn_47 : decode cX2_turn 47 = .ok (.iload 5, 2) := by decide +kernel
theorem dX2_turn_49 : decode cX2_turn 49 = .ok (.faload, 1) := by decide +kernel
theorem dX2_turn_50 : decode cX2_turn 50 = .ok (.goto 4, 3) := by decide +kernel
theorem dX2_turn_53 : decode cX2_turn 53 = .ok (.fconst 0, 1) := by decide +kernel
theorem dX2_turn_54 : decode cX2_turn 54 = .ok (.fstore 7, 2) := by decide +kernel
theorem dX2_turn_56 : decode cX2_turn 56 = .ok (.iload 4, 2) := by decide +kernel
theorem dX2_turn_58 : decode cX2_turn 58 = .ok (.iconst 1, 1) := by decide +kernel
theorem dX2_turn_59 : decode cX2_turn 59 = .ok (.if_icmp .ne 15, 3) := by decide +kernel
theorem dX2_turn_62 : decode cX2_turn 62 = .ok (.iload 5, 2) := by decide +kernel
theorem dX2_turn_64 : decode cX2_turn 64 = .ok (.iconst 1, 1) := by decide +kernel
theorem dX2_turn_65 : decode cX2_turn 65 = .ok (.iand, 1) := by decide +kernel
theorem dX2_turn_66 : decode cX2_turn 66 = .ok (.iconst 1, 1) := by decide +kernel
theorem dX2_turn_67 : decode cX2_turn 67 = .ok (.if_icmp .ne 7, 3) := by decide +kernel
theorem dX2_turn_70 : decode cX2_turn 70 = .ok (.iconst 1, 1) := by decide +kernel
theorem dX2_turn_71 : decode cX2_turn 71 = .ok (.goto 4, 3) := by decide +kernel
theorem dX2_turn_74 : decode cX2_turn 74 = .ok (.iconst 0, 1) := by decide +kernel
theorem dX2_turn_75 : decode cX2_turn 75 = .ok (.istore 8, 2) := by decide +kernel
theorem dX2_turn_77 : decode cX2_turn 77 = .ok (.iload 4, 2) := by decide +kernel
theorem dX2_turn_79 : decode cX2_turn 79 = .ok (.iconst 1, 1) := by decide +kernel
theorem dX2_turn_80 : decode cX2_turn 80 = .ok (.if_icmp .ne 12, 3) := by decide +kernel
theorem dX2_turn_83 : decode cX2_turn 83 = .ok (.iload 5, 2) := by decide +kernel
theorem dX2_turn_85 : decode cX2_turn 85 = .ok (.ifCond .le 7, 3) := by decide +kernel
theorem dX2_turn_88 : decode cX2_turn 88 = .ok (.iconst 1, 1) := by decide +kernel
theorem dX2_turn_89 : decode cX2_turn 89 = .ok (.goto 4, 3) := by decide +kernel
theorem dX2_turn_92 : decode cX2_turn 92 = .ok (.iconst 0, 1) := by decide +kernel
theorem dX2_turn_93 : decode cX2_turn 93 = .ok (.istore 9, 2) := by decide +kernel
theorem dX2_turn_95 : decode cX2_turn 95 = .ok (.iconst 0, 1) := by decide +kernel
theorem dX2_turn_96 : decode cX2_turn 96 = .ok (.istore 10, 2) := by decide +kernel
theorem dX2_turn_98 : decode cX2_turn 98 = .ok (.iload 10, 2) := by decide +kernel
theorem dX2_turn_100 : decode cX2_turn 100 = .ok (.bipush 10, 2) := by decide +kernel
theorem dX2_turn_102 : decode cX2_turn 102 = .ok (.if_icmp .ge 39, 3) := by decide +kernel
theorem dX2_turn_105 : decode cX2_turn 105 = .ok (.iload 5, 2) := by decide +kernel
theorem dX2_turn_107 : decode cX2_turn 107 = .ok (.iload 10, 2) := by decide +kernel
theorem dX2_turn_109 : decode cX2_turn 109 = .ok (.invokestatic 38, 3) := by decide +kernel
theorem dX2_turn_112 : decode cX2_turn 112 = .ok (.istore 11, 2) := by decide +kernel
theorem dX2_turn_114 : decode cX2_turn 114 = .ok (.aload_n 0, 1) := by decide +kernel
theorem dX2_turn_115 : decode cX2_turn 115 = .ok (.aload_n 1, 1) := by decide +kernel
theorem dX2_turn_116 : decode cX2_turn 116 = .ok (.iload 11, 2) := by decide +kernel
theorem dX2_turn_118 : decode cX2_turn 118 = .ok (.fload 6, 2) := by decide +kernel
theorem dX2_turn_120 : decode cX2_turn 120 = .ok (.fload 7, 2) := by decide +kernel
theorem dX2_turn_122 : decode cX2_turn 122 = .ok (.iload 8, 2) := by decide +kernel
theorem dX2_turn_124 : decode cX2_turn 124 = .ok (.invokevirtual 42, 3) := by decide +kernel
theorem dX2_turn_127 : decode cX2_turn 127 = .ok (.aload_n 0, 1) := by decide +kernel
theorem dX2_turn_128 : decode cX2_turn 128 = .ok (.iload 11, 2) := by decide +kernel
theorem dX2_turn_130 : decode cX2_turn 130 = .ok (.iload 9, 2) := by decide +kernel
theorem dX2_turn_132 : decode cX2_turn 132 = .ok (.invokevirtual 46, 3) := by decide +kernel
theorem dX2_turn_135 : decode cX2_turn 135 = .ok (.iinc 10 1, 3) := by decide +kernel
theorem dX2_turn_138 : decode cX2_turn 138 = .ok (.goto (-40), 3) := by decide +kernel
theorem dX2_turn_141 : decode cX2_turn 141 = .ok (.iinc 5 1, 3) := by decide +kernel
theorem dX2_turn_144 : decode cX2_turn 144 = .ok (.goto (-141), 3) := by decide +kernel
theorem dX2_turn_147 : decode cX2_turn 147 = .ok (.return_, 1) := by decide +kernel
theorem dX2_turnSegment_0 : decode cX2_turnSegment 0 = .ok (.fconst 0, 1) := by decide +kernel
theorem dX2_turnSegment_1 : decode cX2_turnSegment 1 = .ok (.fstore 6, 2) := by decide +kernel
theorem dX2_turnSegment_3 : decode cX2_turnSegment 3 = .ok (.fconst 0, 1) := by decide +kernel
theorem dX2_turnSegment_4 : decode cX2_turnSegment 4 = .ok (.fstore 7, 2) := by decide +kernel
theorem dX2_turnSegment_6 : decode cX2_turnSegment 6 = .ok (.fload_n 3, 1) := by decide +kernel
theorem dX2_turnSegment_7 : decode cX2_turnSegment 7 = .ok (.fload_n 3, 1) := by decide +kernel
theorem dX2_turnSegment_8 : decode cX2_turnSegment 8 = .ok (.fmul, 1) := by decide +kernel
theorem dX2_turnSegment_9 : decode cX2_turnSegment 9 = .ok (.fload 4, 2) := by decide +kernel
theorem dX2_turnSegment_11 : decode cX2_turnSegment 11 = .ok (.fload 4, 2) := by decide +kernel
theorem dX2_turnSegment_13 : decode cX2_turnSegment 13 = .ok (.fmul, 1) := by decide +kernel
theorem dX2_turnSegment_14 : decode cX2_turnSegment 14 = .ok (.fadd, 1) := by decide +kernel
theorem dX2_turnSegment_15 : decode cX2_turnSegment 15 = .ok (.fstore 8, 2) := by decide +kernel
theorem dX2_turnSegment_17 : decode cX2_turnSegment 17 = .ok (.fload 8, 2) := by decide +kernel
theorem dX2_turnSegment_19 : decode cX2_turnSegment 19 = .ok (.fconst 0, 1) := by decide +kernel
theorem dX2_turnSegment_20 : decode cX2_turnSegment 20 = .ok (.fcmp .l, 1) := by decide +kernel
theorem dX2_turnSegment_21 : decode cX2_turnSegment 21 = .ok (.ifCond .eq 74, 3) := by decide +kernel
theorem dX2_turnSegment_24 : decode cX2_turnSegment 24 = .ok (.aload_n 1, 1) := by decide +kernel
theorem dX2_turnSegment_25 : decode cX2_turnSegment 25 = .ok (.getfield 50, 3) := by decide +kernel
theorem dX2_turnSegment_28 : decode cX2_turnSegment 28 = .ok (.iload_n 2, 1) := by decide +kernel
theorem dX2_turnSegment_29 : decode cX2_turnSegment 29 = .ok (.iaload, 1) := by decide +kernel
theorem dX2_turnSegment_30 : decode cX2_turnSegment 30 = .ok (.i2f, 1) := by decide +kernel
theorem dX2_turnSegment_31 : decode cX2_turnSegment 31 = .ok (.ldc 55, 2) := by decide +kernel
theorem dX2_turnSegment_33 : decode cX2_turnSegment 33 = .ok (.fdiv, 1) := by decide +kernel
theorem dX2_turnSegment_34 : decode cX2_turnSegment 34 = .ok (.fstore 9, 2) := by decide +kernel
theorem dX2_turnSegment_36 : decode cX2_turnSegment 36 = .ok (.aload_n 1, 1) := by decide +kernel
theorem dX2_turnSegment_37 : decode cX2_turnSegment 37 = .ok (.getfield 56, 3) := by decide +kernel
theorem dX2_turnSegment_40 : decode cX2_turnSegment 40 = .ok (.iload_n 2, 1) := by decide +kernel
theorem dX2_turnSegment_41 : decode cX2_turnSegment 41 = .ok (.iaload, 1) := by decide +kernel
theorem dX2_turnSegment_42 : decode cX2_turnSegment 42 = .ok (.i2f, 1) := by decide +kernel
theorem dX2_turnSegment_43 : decode cX2_turnSegment 43 = .ok (.ldc 55, 2) := by decide +kernel
theorem dX2_turnSegment_45 : decode cX2_turnSegment 45 = .ok (.fdiv, 1) := by decide +kernel
theorem dX2_turnSegment_46 : decode cX2_turnSegment 46 = .ok (.fstore 10, 2) := by decide +kernel
theorem dX2_turnSegment_48 : decode cX2_turnSegment 48 = .ok (.fload 9, 2) := by decide +kernel
theorem dX2_turnSegment_50 : decode cX2_turnSegment 50 = .ok (.fload_n 3, 1) := by decide +kernel
theorem dX2_turnSegment_51 : decode cX2_turnSegment 51 = .ok (.fmul, 1) := by decide +kernel
theorem dX2_turnSegment_52 : decode cX2_turnSegment 52 = .ok (.fload 10, 2) := by decide +kernel
theorem dX2_turnSegment_54 : decode cX2_turnSegment 54 = .ok (.fload 4, 2) := by decide +kernel
theorem dX2_turnSegment_56 : decode cX2_turnSegment 56 = .ok (.fmul, 1) := by decide +kernel
theorem dX2_turnSegment_57 : decode cX2_turnSegment 57 = .ok (.fadd, 1) := by decide +kernel
theorem dX2_turnSegment_58 : decode cX2_turnSegment 58 = .ok (.ldc 58, 2) := by decide +kernel
theorem dX2_turnSegment_60 : decode cX2_turnSegment 60 = .ok (.fmul, 1) := by decide +kernel
theorem dX2_turnSegment_61 : decode cX2_turnSegment 61 = .ok (.fload 8, 2) := by decide +kernel
theorem dX2_turnSegment_63 : decode cX2_turnSegment 63 = .ok (.fdiv, 1) := by decide +kernel
theorem dX2_turnSegment_64 : decode cX2_turnSegment 64 = .ok (.fstore 6, 2) := by decide +kernel
theorem dX2_turnSegment_66 : decode cX2_turnSegment 66 = .ok (.fload 10, 2) := by decide +kernel
theorem dX2_turnSegment_68 : decode cX2_turnSegment 68 = .ok (.fload_n 3, 1) := by decide +kernel
theorem dX2_turnSegment_69 : decode cX2_turnSegment 69 = .ok (.fmul, 1) := by decide +kernel
theorem dX2_turnSegment_70 : decode cX2_turnSegment 70 = .ok (.fload 9, 2) := by decide +kernel
theorem dX2_turnSegment_72 : decode cX2_turnSegment 72 = .ok (.fload 4, 2) := by decide +kernel
theorem dX2_turnSegment_74 : decode cX2_turnSegment 74 = .ok (.fmul, 1) := by decide +kernel
theorem dX2_turnSegment_75 : decode cX2_turnSegment 75 = .ok (.fsub, 1) := by decide +kernel
theorem dX2_turnSegment_76 : decode cX2_turnSegment 76 = .ok (.ldc 58, 2) := by decide +kernel
theorem dX2_turnSegment_78 : decode cX2_turnSegment 78 = .ok (.fmul, 1) := by decide +kernel
theorem dX2_turnSegment_79 : decode cX2_turnSegment 79 = .ok (.fload 8, 2) := by decide +kernel
theorem dX2_turnSegment_81 : decode cX2_turnSegment 81 = .ok (.fdiv, 1) := by decide +kernel
theorem dX2_turnSegment_82 : decode cX2_turnSegment 82 = .ok (.fstore 7, 2) := by decide +kernel
theorem dX2_turnSegment_84 : decode cX2_turnSegment 84 = .ok (.iload 5, 2) := by decide +kernel
theorem dX2_turnSegment_86 : decode cX2_turnSegment 86 = .ok (.ifCond .eq 9, 3) := by decide +kernel
theorem dX2_turnSegment_89 : decode cX2_turnSegment 89 = .ok (.fconst 0, 1) := by decide +kernel
theorem dX2_turnSegment_90 : decode cX2_turnSegment 90 = .ok (.fload 7, 2) := by decide +kernel
theorem dX2_turnSegment_92 : decode cX2_turnSegment 92 = .ok (.fsub, 1) := by decide +kernel
theorem dX2_turnSegment_93 : decode cX2_turnSegment 93 = .ok (.fstore 7, 2) := by decide +kernel
theorem dX2_turnSegment_95 : decode cX2_turnSegment 95 = .ok (.aload_n 0, 1) := by decide +kernel
theorem dX2_turnSegment_96 : decode cX2_turnSegment 96 = .ok (.getfield 9, 3) := by decide +kernel
theorem dX2_turnSegment_99 : decode cX2_turnSegment 99 = .ok (.iload_n 2, 1) := by decide +kernel
theorem dX2_turnSegment_100 : decode cX2_turnSegment 100 = .ok (.fload 6, 2) := by decide +kernel
theorem dX2_turnSegment_102 : decode cX2_turnSegment 102 = .ok (.fastore, 1) := by decide +kernel
theorem dX2_turnSegment_103 : decode cX2_turnSegment 103 = .ok (.aload_n 0, 1) := by decide +kernel
theorem dX2_turnSegment_104 : decode cX2_turnSegment 104 = .ok (.getfield 15, 3) := by decide +kernel
theorem dX2_turnSegment_107 : decode cX2_turnSegment 107 = .ok (.iload_n 2, 1) := by decide +kernel
theorem dX2_turnSegment_108 : decode cX2_turnSegment 108 = .ok (.fload 7, 2) := by decide +kernel
theorem dX2_turnSegment_110 : decode cX2_turnSegment 110 = .ok (.fastore, 1) := by decide +kernel
theorem dX2_turnSegment_111 : decode cX2_turnSegment 111 = .ok (.return_, 1) := by decide +kernel
theorem dX2_mixSegment_0 : decode cX2_mixSegment 0 = .ok (.iload_n 1, 1) := by decide +kernel
theorem dX2_mixSegment_1 : decode cX2_mixSegment 1 = .ok (.bipush 10, 2) := by decide +kernel
theorem dX2_mixSegment_3 : decode cX2_mixSegment 3 = .ok (.isub, 1) := by decide +kernel
theorem dX2_mixSegment_4 : decode cX2_mixSegment 4 = .ok (.istore_n 3, 1) := by decide +kernel
theorem dX2_mixSegment_5 : decode cX2_mixSegment 5 = .ok (.iload_n 2, 1) := by decide +kernel
theorem dX2_mixSegment_6 : decode cX2_mixSegment 6 = .ok (.ifCond .eq 54, 3) := by decide +kernel
theorem dX2_mixSegment_9 : decode cX2_mixSegment 9 = .ok (.iload_n 3, 1) := by decide +kernel
theorem dX2_mixSegment_10 : decode cX2_mixSegment 10 = .ok (.ifCond .lt 50, 3) := by decide +kernel
theorem dX2_mixSegment_13 : decode cX2_mixSegment 13 = .ok (.aload_n 0, 1) := by decide +kernel
theorem dX2_mixSegment_14 : decode cX2_mixSegment 14 = .ok (.getfield 18, 3) := by decide +kernel
theorem dX2_mixSegment_17 : decode cX2_mixSegment 17 = .ok (.iload_n 1, 1) := by decide +kernel
theorem dX2_mixSegment_18 : decode cX2_mixSegment 18 = .ok (.aload_n 0, 1) := by decide +kernel
theorem dX2_mixSegment_19 : decode cX2_mixSegment 19 = .ok (.getfield 9, 3) := by decide +kernel
theorem dX2_mixSegment_22 : decode cX2_mixSegment 22 = .ok (.iload_n 1, 1) := by decide +kernel
theorem dX2_mixSegment_23 : decode cX2_mixSegment 23 = .ok (.faload, 1) := by decide +kernel
theorem dX2_mixSegment_24 : decode cX2_mixSegment 24 = .ok (.aload_n 0, 1) := by decide +kernel
theorem dX2_mixSegment_25 : decode cX2_mixSegment 25 = .ok (.getfield 9, 3) := by decide +kernel
theorem dX2_mixSegment_28 : decode cX2_mixSegment 28 = .ok (.iload_n 3, 1) := by decide +kernel
theorem dX2_mixSegment_29 : decode cX2_mixSegment 29 = .ok (.faload, 1) := by decide +kernel
theorem dX2_mixSegment_30 : decode cX2_mixSegment 30 = .ok (.fadd, 1) := by decide +kernel
theorem dX2_mixSegment_31 : decode cX2_mixSegment 31 = .ok (.ldc 59, 2) := by decide +kernel
theorem dX2_mixSegment_33 : decode cX2_mixSegment 33 = .ok (.fmul, 1) := by decide +kernel
theorem dX2_mixSegment_34 : decode cX2_mixSegment 34 = .ok (.fastore, 1) := by decide +kernel
theorem dX2_mixSegment_35 : decode cX2_mixSegment 35 = .ok (.aload_n 0, 1) := by decide +kernel
theorem dX2_mixSegment_36 : decode cX2_mixSegment 36 = .ok (.getfield 21, 3) := by decide +kernel
theorem dX2_mixSegment_39 : decode cX2_mixSegment 39 = .ok (.iload_n 1, 1) := by decide +kernel
theorem dX2_mixSegment_40 : decode cX2_mixSegment 40 = .ok (.aload_n 0, 1) := by decide +kernel
theorem dX2_mixSegment_41 : decode cX2_mixSegment 41 = .ok (.getfield 15, 3) := by decide +kernel
theorem dX2_mixSegment_44 : decode cX2_mixSegment 44 = .ok (.iload_n 1, 1) := by decide +kernel
theorem dX2_mixSegment_45 : decode cX2_mixSegment 45 = .ok (.faload, 1) := by decide +kernel
theorem dX2_mixSegment_46 : decode cX2_mixSegment 46 = .ok (.aload_n 0, 1) := by decide +kernel
theorem dX2_mixSegment_47 : decode cX2_mixSegment 47 = .ok (.getfield 15, 3) := by decide +kernel
theorem dX2_mixSegment_50 : decode cX2_mixSegment 50 = .ok (.iload_n 3, 1) := by decide +kernel
theorem dX2_mixSegment_51 : decode cX2_mixSegment 51 = .ok (.faload, 1) := by decide +kernel
theorem dX2_mixSegment_52 : decode cX2_mixSegment 52 = .ok (.fadd, 1) := by decide +kernel
theorem dX2_mixSegment_53 : decode cX2_mixSegment 53 = .ok (.ldc 59, 2) := by decide +kernel
theorem dX2_mixSegment_55 : decode cX2_mixSegment 55 = .ok (.fmul, 1) := by decide +kernel
theorem dX2_mixSegment_56 : decode cX2_mixSegment 56 = .ok (.fastore, 1) := by decide +kernel
theorem dX2_mixSegment_57 : decode cX2_mixSegment 57 = .ok (.goto 27, 3) := by decide +kernel
theorem dX2_mixSegment_60 : decode cX2_mixSegment 60 = .ok (.aload_n 0, 1) := by decide +kernel
theorem dX2_mixSegment_61 : decode cX2_mixSegment 61 = .ok (.getfield 18, 3) := by decide +kernel
theorem dX2_mixSegment_64 : decode cX2_mixSegment 64 = .ok (.iload_n 1, 1) := by decide +kernel
theorem dX2_mixSegment_65 : decode cX2_mixSegment 65 = .ok (.aload_n 0, 1) := by decide +kernel
theorem dX2_mixSegment_66 : decode cX2_mixSegment 66 = .ok (.getfield 9, 3) := by decide +kernel
theorem dX2_mixSegment_69 : decode cX2_mixSegment 69 = .ok (.iload_n 1, 1) := by decide +kernel
theorem dX2_mixSegment_70 : decode cX2_mixSegment 70 = .ok (.faload, 1) := by decide +kernel
theorem dX2_mixSegment_71 : decode cX2_mixSegment 71 = .ok (.fastore, 1) := by decide +kernel
theorem dX2_mixSegment_72 : decode cX2_mixSegment 72 = .ok (.aload_n 0, 1) := by decide +kernel
theorem dX2_mixSegment_73 : decode cX2_mixSegment 73 = .ok (.getfield 21, 3) := by decide +kernel
theorem dX2_mixSegment_76 : decode cX2_mixSegment 76 = .ok (.iload_n 1, 1) := by decide +kernel
theorem dX2_mixSegment_77 : decode cX2_mixSegment 77 = .ok (.aload_n 0, 1) := by decide +kernel
theorem dX2_mixSegment_78 : decode cX2_mixSegment 78 = .ok (.getfield 15, 3) := by decide +kernel
theorem dX2_mixSegment_81 : decode cX2_mixSegment 81 = .ok (.iload_n 1, 1) := by decide +kernel
theorem dX2_mixSegment_82 : decode cX2_mixSegment 82 = .ok (.faload, 1) := by decide +kernel
theorem dX2_mixSegment_83 : decode cX2_mixSegment 83 = .ok (.fastore, 1) := by decide +kernel
theorem dX2_mixSegment_84 : decode cX2_mixSegment 84 = .ok (.return_, 1) := by decide +kernel
theorem dX3_init_0 : decode cX3_init 0 = .ok (.aload_n 0, 1) := by decide +kernel
theorem dX3_init_1 : decode cX3_init 1 = .ok (.invokespecial 3, 3) := by decide +kernel
theorem dX3_init_4 : decode cX3_init 4 = .ok (.aload_n 0, 1) := by decide +kernel
theorem dX3_init_5 : decode cX3_init 5 = .ok (.bipush 80, 2) := by decide +kernel
theorem dX3_init_7 : decode cX3_init 7 = .ok (.newarray .int, 2) := by decide +kernel
theorem dX3_init_9 : decode cX3_init 9 = .ok (.putfield 9, 3) := by decide +kernel
theorem dX3_init_12 : decode cX3_init 12 = .ok (.aload_n 0, 1) := by decide +kernel
theorem dX3_init_13 : decode cX3_init 13 = .ok (.bipush 80, 2) := by decide +kernel
theorem dX3_init_15 : decode cX3_init 15 = .ok (.newarray .int, 2) := by decide +kernel
theorem dX3_init_17 : decode cX3_init 17 = .ok (.putfield 15, 3) := by decide +kernel
theorem dX3_init_20 : decode cX3_init 20 = .ok (.aload_n 0, 1) := by decide +kernel
theorem dX3_init_21 : decode cX3_init 21 = .ok (.bipush 80, 2) := by decide +kernel
theorem dX3_init_23 : decode cX3_init 23 = .ok (.newarray .int, 2) := by decide +kernel
theorem dX3_init_25 : decode cX3_init 25 = .ok (.putfield 18, 3) := by decide +kernel
theorem dX3_init_28 : decode cX3_init 28 = .ok (.aload_n 0, 1) := by decide +kernel
theorem dX3_init_29 : decode cX3_init 29 = .ok (.bipush 80, 2) := by decide +kernel
theorem dX3_init_31 : decode cX3_init 31 = .ok (.newarray .int, 2) := by decide +kernel
theorem dX3_init_33 : decode cX3_init 33 = .ok (.putfield 21, 3) := by decide +kernel
theorem dX3_init_36 : decode cX3_init 36 = .ok (.aload_n 0, 1) := by decide +kernel
theorem dX3_init_37 : decode cX3_init 37 = .ok (.bipush 80, 2) := by decide +kernel
theorem dX3_init_39 : decode cX3_init 39 = .ok (.newarray .int, 2) := by decide +kernel
theorem dX3_init_41 : decode cX3_init 41 = .ok (.putfield 24, 3) := by decide +kernel
theorem dX3_init_44 : decode cX3_init 44 = .ok (.return_, 1) := by decide +kernel
theorem dX3_separate_0 : decode cX3_separate 0 = .ok (.iload 4, 2) := by decide +kernel
theorem dX3_separate_2 : decode cX3_separate 2 = .ok (.iconst 1, 1) := by decide +kernel
theorem dX3_separate_3 : decode cX3_separate 3 = .ok (.if_icmp .ne 7, 3) := by decide +kernel
theorem dX3_separate_6 : decode cX3_separate 6 = .ok (.iconst 0, 1) := by decide +kernel
theorem dX3_separate_7 : decode cX3_separate 7 = .ok (.goto 7, 3) := by decide +kernel
theorem dX3_separate_10 : decode cX3_separate 10 = .ok (.aload_n 3, 1) := by decide +kernel
theorem dX3_separate_11 : decode cX3_separate 11 = .ok (.invokevirtual 27, 3) := by decide +kernel
theorem dX3_separate_14 : decode cX3_separate 14 = .ok (.istore 5, 2) := by decide +kernel
theorem dX3_separate_16 : decode cX3_separate 16 = .ok (.bipush 8, 2) := by decide +kernel
theorem dX3_separate_18 : decode cX3_separate 18 = .ok (.aload_n 3, 1) := by decide +kernel
theorem dX3_separate_19 : decode cX3_separate 19 = .ok (.invokevirtual 33, 3) := by decide +kernel
theorem dX3_separate_22 : decode cX3_separate 22 = .ok (.imul, 1) := by decide +kernel
theorem dX3_separate_23 : decode cX3_separate 23 = .ok (.istore 6, 2) := by decide +kernel
theorem dX3_separate_25 : decode cX3_separate 25 = .ok (.aload_n 0, 1) := by decide +kernel
theorem dX3_separate_26 : decode cX3_separate 26 = .ok (.aload_n 1, 1) := by decide +kernel
theorem dX3_separate_27 : decode cX3_separate 27 = .ok (.aload_n 2, 1) := by decide +kernel
theorem dX3_separate_28 : decode cX3_separate 28 = .ok (.invokevirtual 36, 3) := by decide +kernel
theorem dX3_separate_31 : decode cX3_separate 31 = .ok (.iconst 0, 1) := by decide +kernel
theorem dX3_separate_32 : decode cX3_separate 32 = .ok (.istore 7, 2) := by decide +kernel
theorem dX3_separate_34 : decode cX3_separate 34 = .ok (.iload 7, 2) := by decide +kernel
theorem dX3_separate_36 : decode cX3_separate 36 = .ok (.bipush 8, 2) := by decide +kernel
theorem dX3_separate_38 : decode cX3_separate 38 = .ok (.if_icmp .ge 56, 3) := by decide +kernel
theorem dX3_separate_41 : decode cX3_separate 41 = .ok (.iconst 0, 1) := by decide +kernel
theorem dX3_separate_42 : decode cX3_separate 42 = .ok (.istore 8, 2) := by decide +kernel
theorem dX3_separate_44 : decode cX3_separate 44 = .ok (.iload 8, 2) := by decide +kernel
theorem dX3_separate_46 : decode cX3_separate 46 = .ok (.bipush 10, 2) := by decide +kernel
theorem dX3_separate_48 : decode cX3_separate 48 = .ok (.if_icmp .ge 40, 3) := by decide +kernel
theorem dX3_separate_51 : decode cX3_separate 51 = .ok (.aload_n 0, 1) := by decide +kernel
theorem dX3_separate_52 : decode cX3_separate 52 = .ok (.iload 7, 2) := by decide +kernel
theorem dX3_separate_54 : decode cX3_separate 54 = .ok (.iload 7, 2) := by decide +kernel
theorem dX3_separate_56 : decode cX3_separate 56 = .ok (.iload 8, 2) := by decide +kernel
theorem dX3_separate_58 : decode cX3_separate 58 = .ok (.invokestatic 40, 3) := by decide +kernel
theorem dX3_separate_61 : decode cX3_separate 61 = .ok (.iload 5, 2) := by decide +kernel
theorem dX3_separate_63 : decode cX3_separate 63 = .ok (.iload 6, 2) := by decide +kernel
theorem dX3_separate_65 : decode cX3_separate 65 = .ok (.invokevirtual 44, 3) := by decide +kernel
theorem dX3_separate_68 : decode cX3_separate 68 = .ok (.istore 9, 2) := by decide +kernel
theorem dX3_separate_70 : decode cX3_separate 70 = .ok (.aload_n 0, 1) := by decide +kernel
theorem dX3_separate_71 : decode cX3_separate 71 = .ok (.aload_n 1, 1) := by decide +kernel
theorem dX3_separate_72 : decode cX3_separate 72 = .ok (.aload_n 2, 1) := by decide +kernel
theorem dX3_separate_73 : decode cX3_separate 73 = .ok (.iload 7, 2) := by decide +kernel
theorem dX3_separate_75 : decode cX3_separate 75 = .ok (.iload 8, 2) := by decide +kernel
theorem dX3_separate_77 : decode cX3_separate 77 = .ok (.iload 9, 2) := by decide +kernel
theorem dX3_separate_79 : decode cX3_separate 79 = .ok (.invokevirtual 48, 3) := by decide +kernel
theorem dX3_separate_82 : decode cX3_separate 82 = .ok (.iinc 8 1, 3) := by decide +kernel
theorem dX3_separate_85 : decode cX3_separate 85 = .ok (.goto (-41), 3) := by decide +kernel
theorem dX3_separate_88 : decode cX3_separate 88 = .ok (.iinc 7 1, 3) := by decide +kernel
theorem dX3_separate_91 : decode cX3_separate 91 = .ok (.goto (-57), 3) := by decide +kernel
theorem dX3_separate_94 : decode cX3_separate 94 = .ok (.return_, 1) := by decide +kernel
theorem dX3_sumUp_0 : decode cX3_sumUp 0 = .ok (.iconst 0, 1) := by decide +kernel
theorem dX3_sumUp_1 : decode cX3_sumUp 1 = .ok (.istore_n 3, 1) := by decide +kernel
theorem dX3_sumUp_2 : decode cX3_sumUp 2 = .ok (.iload_n 3, 1) := by decide +kernel
theorem dX3_sumUp_3 : decode cX3_sumUp 3 = .ok (.bipush 8, 2) := by decide +kernel
theorem dX3_sumUp_5 : decode cX3_sumUp 5 = .ok (.if_icmp .ge 57, 3) := by decide +kernel
theorem dX3_sumUp_8 : decode cX3_sumUp 8 = .ok (.aload_n 2, 1) := by decide +kernel
theorem dX3_sumUp_9 : decode cX3_sumUp 9 = .ok (.iload_n 3, 1) := by decide +kernel
theorem dX3_sumUp_10 : decode cX3_sumUp 10 = .ok (.iaload, 1) := by decide +kernel
theorem dX3_sumUp_11 : decode cX3_sumUp 11 = .ok (.bipush 16, 2) := by decide +kernel
theorem dX3_sumUp_13 : decode cX3_sumUp 13 = .ok (.iadd, 1) := by decide +kernel
theorem dX3_sumUp_14 : decode cX3_sumUp 14 = .ok (.istore 4, 2) := by decide +kernel
theorem dX3_sumUp_16 : decode cX3_sumUp 16 = .ok (.iconst 0, 1) := by decide +kernel
theorem dX3_sumUp_17 : decode cX3_sumUp 17 = .ok (.istore 5, 2) := by decide +kernel
theorem dX3_sumUp_19 : decode cX3_sumUp 19 = .ok (.iload 5, 2) := by decide +kernel
theorem dX3_sumUp_21 : decode cX3_sumUp 21 = .ok (.bipush 10, 2) := by decide +kernel
theorem dX3_sumUp_23 : decode cX3_sumUp 23 = .ok (.if_icmp .ge 33, 3) := by decide +kernel
theorem dX3_sumUp_26 : decode cX3_sumUp 26 = .ok (.aload_n 0, 1) := by decide +kernel
theorem dX3_sumUp_27 : decode cX3_sumUp 27 = .ok (.getfield 9, 3) := by decide +kernel
theorem dX3_sumUp_30 : decode cX3_sumUp 30 = .ok (.iload_n 3, 1) := by decide +kernel
theorem dX3_sumUp_31 : decode cX3_sumUp 31 = .ok (.iload 5, 2) := by decide +kernel
theorem dX3_sumUp_33 : decode cX3_sumUp 33 = .ok (.invokestatic 40, 3) := by decide +kernel
theorem dX3_sumUp_36 : decode cX3_sumUp 36 = .ok (.aload_n 1, 1) := by decide +kernel
theorem dX3_sumUp_37 : decode cX3_sumUp 37 = .ok (.iload_n 3, 1) := by decide +kernel
theorem dX3_sumUp_38 : decode cX3_sumUp 38 = .ok (.iload 4, 2) := by decide +kernel
theorem dX3_sumUp_40 : decode cX3_sumUp 40 = .ok (.bipush 8, 2) := by decide +kernel
theorem dX3_sumUp_42 : decode cX3_sumUp 42 = .ok (.iload 5, 2) := by decide +kernel
theorem dX3_sumUp_44 : decode cX3_sumUp 44 = .ok (.imul, 1) := by decide +kernel
theorem dX3_sumUp_45 : decode cX3_sumUp 45 = .ok (.iadd, 1) := by decide +kernel
theorem dX3_sumUp_46 : decode cX3_sumUp 46 = .ok (.invokevirtual 52, 3) := by decide +kernel
theorem dX3_sumUp_49 : decode cX3_sumUp 49 = .ok (.iastore, 1) := by decide +kernel
theorem dX3_sumUp_50 : decode cX3_sumUp 50 = .ok (.iinc 5 1, 3) := by decide +kernel
theorem dX3_sumUp_53 : decode cX3_sumUp 53 = .ok (.goto (-34), 3) := by decide +kernel
theorem dX3_sumUp_56 : decode cX3_sumUp 56 = .ok (.iinc 3 1, 3) := by decide +kernel
theorem dX3_sumUp_59 : decode cX3_sumUp 59 = .ok (.goto (-57), 3) := by decide +kernel
theorem dX3_sumUp_62 : decode cX3_sumUp 62 = .ok (.return_, 1) := by decide +kernel
theorem dX3_wayFor_0 : decode cX3_wayFor 0 = .ok (.iload_n 1, 1) := by decide +kernel
theorem dX3_wayFor_1 : decode cX3_wayFor 1 = .ok (.ifCond .le 7, 3) := by decide +kernel
theorem dX3_wayFor_4 : decode cX3_wayFor 4 = .ok (.iconst 1, 1) := by decide +kernel
theorem dX3_wayFor_5 : decode cX3_wayFor 5 = .ok (.goto 4, 3) := by decide +kernel
theorem dX3_wayFor_8 : decode cX3_wayFor 8 = .ok (.iconst 0, 1) := by decide +kernel
theorem dX3_wayFor_9 : decode cX3_wayFor 9 = .ok (.istore 5, 2) := by decide +kernel
theorem dX3_wayFor_11 : decode cX3_wayFor 11 = .ok (.iload_n 1, 1) := by decide +kernel
theorem dX3_wayFor_12 : decode cX3_wayFor 12 = .ok (.bipush 7, 2) := by decide +kernel
theorem dX3_wayFor_14 : decode cX3_wayFor 14 = .ok (.if_icmp .ge 7, 3) := by decide +kernel
theorem dX3_wayFor_17 : decode cX3_wayFor 17 = .ok (.iconst 1, 1) := by decide +kernel
theorem dX3_wayFor_18 : decode cX3_wayFor 18 = .ok (.goto 4, 3) := by decide +kernel
theorem dX3_wayFor_21 : decode cX3_wayFor 21 = .ok (.iconst 0, 1) := by decide +kernel
theorem dX3_wayFor_22 : decode cX3_wayFor 22 = .ok (.istore 6, 2) := by decide +kernel
theorem dX3_wayFor_24 : decode cX3_wayFor 24 = .ok (.iload_n 3, 1) := by decide +kernel
theorem dX3_wayFor_25 : decode cX3_wayFor 25 = .ok (.tableswitch 96 1 3 #[27, 38, 41], 27) := by decide +kernel
theorem dX3_wayFor_52 : decode cX3_wayFor 52 = .ok (.iload 5, 2) := by decide +kernel
theorem dX3_wayFor_54 : decode cX3_wayFor 54 = .ok (.ifCond .eq 7, 3) := by decide +kernel
theorem dX3_wayFor_57 : decode cX3_wayFor 57 = .ok (.iconst 1, 1) := by decide +kernel
theorem dX3_wayFor_58 : decode cX3_wayFor 58 = .ok (.goto 4, 3) := by decide +kernel
theorem dX3_wayFor_61 : decode cX3_wayFor 61 = .ok (.iconst 2, 1) := by decide +kernel
theorem dX3_wayFor_62 : decode cX3_wayFor 62 = .ok (.ireturn, 1) := by decide +kernel
theorem dX3_wayFor_63 : decode cX3_wayFor 63 = .ok (.goto 60, 3) := by decide +kernel
theorem dX3_wayFor_66 : decode cX3_wayFor 66 = .ok (.iload 5, 2) := by decide +kernel
theorem dX3_wayFor_68 : decode cX3_wayFor 68 = .ok (.ifCond .eq 21, 3) := by decide +kernel
theorem dX3_wayFor_71 : decode cX3_wayFor 71 = .ok (.aload_n 0, 1) := by decide +kernel
theorem dX3_wayFor_72 : decode cX3_wayFor 72 = .ok (.iload_n 2, 1) := by decide +kernel
theorem dX3_wayFor_73 : decode cX3_wayFor 73 = .ok (.iload_n 2, 1) := by decide +kernel
theorem dX3_wayFor_74 : decode cX3_wayFor 74 = .ok (.bipush 10, 2) := by decide +kernel
theorem dX3_wayFor_76 : decode cX3_wayFor 76 = .ok (.isub, 1) := by decide +kernel
theorem dX3_wayFor_77 : decode cX3_wayFor 77 = .ok (.iload 4, 2) := by decide +kernel
theorem dX3_wayFor_79 : decode cX3_wayFor 79 = .ok (.invokevirtual 57, 3) := by decide +kernel
theorem dX3_wayFor_82 : decode cX3_wayFor 82 = .ok (.ifCond .eq 7, 3) := by decide +kernel
theorem dX3_wayFor_85 : decode cX3_wayFor 85 = .ok (.iconst 1, 1) := by decide +kernel
theorem dX3_wayFor_86 : decode cX3_wayFor 86 = .ok (.goto 4, 3) := by decide +kernel
theorem dX3_wayFor_89 : decode cX3_wayFor 89 = .ok (.iconst 0, 1) := by decide +kernel
theorem dX3_wayFor_90 : decode cX3_wayFor 90 = .ok (.istore 5, 2) := by decide +kernel
theorem dX3_wayFor_92 : decode cX3_wayFor 92 = .ok (.iload 6, 2) := by decide +kernel
theorem dX3_wayFor_94 : decode cX3_wayFor 94 = .ok (.ifCond .eq 21, 3) := by decide +kernel
theorem dX3_wayFor_97 : decode cX3_wayFor 97 = .ok (.aload_n 0, 1) := by decide +kernel
theorem dX3_wayFor_98 : decode cX3_wayFor 98 = .ok (.iload_n 2, 1) := by decide +kernel
theorem dX3_wayFor_99 : decode cX3_wayFor 99 = .ok (.iload_n 2, 1) := by decide +kernel
theorem dX3_wayFor_100 : decode cX3_wayFor 100 = .ok (.bipush 10, 2) := by decide +kernel
theorem dX3_wayFor_102 : decode cX3_wayFor 102 = .ok (.iadd, 1) := by decide +kernel
theorem dX3_wayFor_103 : decode cX3_wayFor 103 = .ok (.iload 4, 2) := by decide +kernel
theorem dX3_wayFor_105 : decode cX3_wayFor 105 = .ok (.invokevirtual 57, 3) := by decide +kernel
theorem dX3_wayFor_108 : decode cX3_wayFor 108 = .ok (.ifCond .eq 7, 3) := by decide +kernel
theorem dX3_wayFor_111 : decode cX3_wayFor 111 = .ok (.iconst 1, 1) := by decide +kernel
theorem dX3_wayFor_112 : decode cX3_wayFor 112 = .ok (.goto 4, 3) := by decide +kernel
theorem dX3_wayFor_115 : decode cX3_wayFor 115 = .ok (.iconst 0, 1) := by decide +kernel
theorem dX3_wayFor_116 : decode cX3_wayFor 116 = .ok (.istore 6, 2) := by decide +kernel
theorem dX3_wayFor_118 : decode cX3_wayFor 118 = .ok (.goto 5, 3) := by decide +kernel
theorem dX3_wayFor_121 : decode cX3_wayFor 121 = .ok (.iconst 0, 1) := by decide +kernel
theorem dX3_wayFor_122 : decode cX3_wayFor 122 = .ok (.ireturn, 1) := by decide +kernel
theorem dX3_wayFor_123 : decode cX3_wayFor 123 = .ok (.iload 5, 2) := by decide +kernel
theorem dX3_wayFor_125 : decode cX3_wayFor 125 = .ok (.ifCond .eq 7, 3) := by decide +kernel
theorem dX3_wayFor_128 : decode cX3_wayFor 128 = .ok (.iconst 1, 1) := by decide +kernel
theorem dX3_wayFor_129 : decode cX3_wayFor 129 = .ok (.goto 4, 3) := by decide +kernel
theorem dX3_wayFor_132 : decode cX3_wayFor 132 = .ok (.iconst 0, 1) := by decide +kernel
theorem dX3_wayFor_133 : decode cX3_wayFor 133 = .ok (.iload 6, 2) := by decide +kernel
theorem dX3_wayFor_135 : decode cX3_wayFor 135 = .ok (.ifCond .eq 7, 3) := by decide +kernel
theorem dX3_wayFor_138 : decode cX3_wayFor 138 = .ok (.iconst 2, 1) := by decide +kernel
theorem dX3_wayFor_139 : decode cX3_wayFor 139 = .ok (.goto 4, 3) := by decide +kernel
theorem dX3_wayFor_142 : decode cX3_wayFor 142 = .ok (.iconst 0, 1) := by decide +kernel
theorem dX3_wayFor_143 : decode cX3_wayFor 143 = .ok (.iadd, 1) := by decide +kernel
theorem dX3_wayFor_144 : decode cX3_wayFor 144 = .ok (.ireturn, 1) := by decide +kernel
theorem dX3_isNear_0 : decode cX3_isNear 0 = .ok (.iload_n 2, 1) := by decide +kernel
theorem dX3_isNear_1 : decode cX3_isNear 1 = .ok (.iconst 0, 1) := by decide +kernel
theorem dX3_isNear_2 : decode cX3_isNear 2 = .ok (.bipush 79, 2) := by decide +kernel
theorem dX3_isNear_4 : decode cX3_isNear 4 = .ok (.invokestatic 61, 3) := by decide +kernel
theorem dX3_isNear_7 : decode cX3_isNear 7 = .ok (.ifCond .eq 27, 3) := by decide +kernel
theorem dX3_isNear_10 : decode cX3_isNear 10 = .ok (.aload_n 0, 1) := by decide +kernel
theorem dX3_isNear_11 : decode cX3_isNear 11 = .ok (.getfield 9, 3) := by decide +kernel
theorem dX3_isNear_14 : decode cX3_isNear 14 = .ok (.iload_n 2, 1) := by decide +kernel
theorem dX3_isNear_15 : decode cX3_isNear 15 = .ok (.iaload, 1) := by decide +kernel
theorem dX3_isNear_16 : decode cX3_isNear 16 = .ok (.aload_n 0, 1) := by decide +kernel
theorem dX3_isNear_17 : decode cX3_isNear 17 = .ok (.getfield 9, 3) := by decide +kernel
theorem dX3_isNear_20 : decode cX3_isNear 20 = .ok (.iload_n 1, 1) := by decide +kernel
theorem dX3_isNear_21 : decode cX3_isNear 21 = .ok (.iaload, 1) := by decide +kernel
theorem dX3_isNear_22 : decode cX3_isNear 22 = .ok (.isub, 1) := by decide +kernel
theorem dX3_isNear_23 : decode cX3_isNear 23 = .ok (.invokestatic 64, 3) := by decide +kernel
theorem dX3_isNear_26 : decode cX3_isNear 26 = .ok (.iload_n 3, 1) := by decide +kernel
theorem dX3_isNear_27 : decode cX3_isNear 27 = .ok (.if_icmp .gt 7, 3) := by decide +kernel
theorem dX3_isNear_30 : decode cX3_isNear 30 = .ok (.iconst 1, 1) := by decide +kernel
theorem dX3_isNear_31 : decode cX3_isNear 31 = .ok (.goto 4, 3) := by decide +kernel
theorem dX3_isNear_34 : decode cX3_isNear 34 = .ok (.iconst 0, 1) := by decide +kernel
theorem dX3_isNear_35 : decode cX3_isNear 35 = .ok (.ireturn, 1) := by decide +kernel
theorem dX3_splitSegment_0 : decode cX3_splitSegment 0 = .ok (.iconst 0, 1) := by decide +kernel
theorem dX3_splitSegment_1 : decode cX3_splitSegment 1 = .ok (.istore 6, 2) := by decide +kernel
theorem dX3_splitSegment_3 : decode cX3_splitSegment 3 = .ok (.iconst 0, 1) := by decide +kernel
theorem dX3_splitSegment_4 : decode cX3_splitSegment 4 = .ok (.istore 7, 2) := by decide +kernel
theorem dX3_splitSegment_6 : decode cX3_splitSegment 6 = .ok (.iconst 0, 1) := by decide +kernel
theorem dX3_splitSegment_7 : decode cX3_splitSegment 7 = .ok (.istore 8, 2) := by decide +kernel
theorem dX3_splitSegment_9 : decode cX3_splitSegment 9 = .ok (.bipush 16, 2) := by decide +kernel
theorem dX3_splitSegment_11 : decode cX3_splitSegment 11 = .ok (.bipush 8, 2) := by decide +kernel
theorem dX3_splitSegment_13 : decode cX3_splitSegment 13 = .ok (.iload 4, 2) := by decide +kernel
theorem dX3_splitSegment_15 : decode cX3_splitSegment 15 = .ok (.imul, 1) := by decide +kernel
theorem dX3_splitSegment_16 : decode cX3_splitSegment 16 = .ok (.iadd, 1) := by decide +kernel
theorem dX3_splitSegment_17 : decode cX3_splitSegment 17 = .ok (.istore 9, 2) := by decide +kernel
theorem dX3_splitSegment_19 : decode cX3_splitSegment 19 = .ok (.iconst 0, 1) := by decide +kernel
theorem dX3_splitSegment_20 : decode cX3_splitSegment 20 = .ok (.istore 10, 2) := by decide +kernel
theorem dX3_splitSegment_22 : decode cX3_splitSegment 22 = .ok (.iload 10, 2) := by decide +kernel
theorem dX3_splitSegment_24 : decode cX3_splitSegment 24 = .ok (.bipush 8, 2) := by decide +kernel
theorem dX3_splitSegment_26 : decode cX3_splitSegment 26 = .ok (.if_icmp .ge 74, 3) := by decide +kernel
theorem dX3_splitSegment_29 : decode cX3_splitSegment 29 = .ok (.aload_n 1, 1) := by decide +kernel
theorem dX3_splitSegment_30 : decode cX3_splitSegment 30 = .ok (.aload_n 2, 1) := by decide +kernel
theorem dX3_splitSegment_31 : decode cX3_splitSegment 31 = .ok (.iload_n 3, 1) := by decide +kernel
theorem dX3_splitSegment_32 : decode cX3_splitSegment 32 = .ok (.iload 9, 2) := by decide +kernel
theorem dX3_splitSegment_34 : decode cX3_splitSegment 34 = .ok (.iload 10, 2) := by decide +kernel
theorem dX3_splitSegment_36 : decode cX3_splitSegment 36 = .ok (.iadd, 1) := by decide +kernel
theorem dX3_splitSegment_37 : decode cX3_splitSegment 37 = .ok (.iload 5, 2) := by decide +kernel
theorem dX3_splitSegment_39 : decode cX3_splitSegment 39 = .ok (.invokestatic 70, 3) := by decide +kernel
theorem dX3_splitSegment_42 : decode cX3_splitSegment 42 = .ok (.istore 11, 2) := by decide +kernel
theorem dX3_splitSegment_44 : decode cX3_splitSegment 44 = .ok (.iload_n 3, 1) := by decide +kernel
theorem dX3_splitSegment_45 : decode cX3_splitSegment 45 = .ok (.aload_n 2, 1) := by decide +kernel
theorem dX3_splitSegment_46 : decode cX3_splitSegment 46 = .ok (.iload_n 3, 1) := by decide +kernel
theorem dX3_splitSegment_47 : decode cX3_splitSegment 47 = .ok (.iaload, 1) := by decide +kernel
theorem dX3_splitSegment_48 : decode cX3_splitSegment 48 = .ok (.iload 9, 2) := by decide +kernel
theorem dX3_splitSegment_50 : decode cX3_splitSegment 50 = .ok (.iadd, 1) := by decide +kernel
theorem dX3_splitSegment_51 : decode cX3_splitSegment 51 = .ok (.iload 10, 2) := by decide +kernel
theorem dX3_splitSegment_53 : decode cX3_splitSegment 53 = .ok (.iadd, 1) := by decide +kernel
theorem dX3_splitSegment_54 : decode cX3_splitSegment 54 = .ok (.invokestatic 74, 3) := by decide +kernel
theorem dX3_splitSegment_57 : decode cX3_splitSegment 57 = .ok (.istore 12, 2) := by decide +kernel
theorem dX3_splitSegment_59 : decode cX3_splitSegment 59 = .ok (.iload 6, 2) := by decide +kernel
theorem dX3_splitSegment_61 : decode cX3_splitSegment 61 = .ok (.iload 11, 2) := by decide +kernel
theorem dX3_splitSegment_63 : decode cX3_splitSegment 63 = .ok (.iadd, 1) := by decide +kernel
theorem dX3_splitSegment_64 : decode cX3_splitSegment 64 = .ok (.istore 6, 2) := by decide +kernel
theorem dX3_splitSegment_66 : decode cX3_splitSegment 66 = .ok (.iload 7, 2) := by decide +kernel
theorem dX3_splitSegment_68 : decode cX3_splitSegment 68 = .ok (.iload 11, 2) := by decide +kernel
theorem dX3_splitSegment_70 : decode cX3_splitSegment 70 = .ok (.getstatic 77, 3) := by decide +kernel
theorem dX3_splitSegment_73 : decode cX3_splitSegment 73 = .ok (.iload 12, 2) := by decide +kernel
theorem dX3_splitSegment_75 : decode cX3_splitSegment 75 = .ok (.iaload, 1) := by decide +kernel
theorem dX3_splitSegment_76 : decode cX3_splitSegment 76 = .ok (.imul, 1) := by decide +kernel
theorem dX3_splitSegment_77 : decode cX3_splitSegment 77 = .ok (.iadd, 1) := by decide +kernel
theorem dX3_splitSegment_78 : decode cX3_splitSegment 78 = .ok (.istore 7, 2) := by decide +kernel
theorem dX3_splitSegment_80 : decode cX3_splitSegment 80 = .ok (.iload 8, 2) := by decide +kernel
theorem dX3_splitSegment_82 : decode cX3_splitSegment 82 = .ok (.iload 11, 2) := by decide +kernel
theorem dX3_splitSegment_84 : decode cX3_splitSegment 84 = .ok (.getstatic 80, 3) := by decide +kernel
theorem dX3_splitSegment_87 : decode cX3_splitSegment 87 = .ok (.iload 12, 2) := by decide +kernel
theorem dX3_splitSegment_89 : decode cX3_splitSegment 89 = .ok (.iaload, 1) := by decide +kernel
theorem dX3_splitSegment_90 : decode cX3_splitSegment 90 = .ok (.imul, 1) := by decide +kernel
theorem dX3_splitSegment_91 : decode cX3_splitSegment 91 = .ok (.iadd, 1) := by decide +kernel
theorem dX3_splitSegment_92 : decode cX3_splitSegment 92 = .ok (.istore 8, 2) := by decide +kernel
theorem dX3_splitSegment_94 : decode cX3_splitSegment 94 = .ok (.iinc 10 1, 3) := by decide +kernel
theorem dX3_splitSegment_97 : decode cX3_splitSegment 97 = .ok (.goto (-75), 3) := by decide +kernel
theorem dX3_splitSegment_100 : decode cX3_splitSegment 100 = .ok (.iload_n 3, 1) := by decide +kernel
theorem dX3_splitSegment_101 : decode cX3_splitSegment 101 = .ok (.iload 4, 2) := by decide +kernel
theorem dX3_splitSegment_103 : decode cX3_splitSegment 103 = .ok (.invokestatic 40, 3) := by decide +kernel
theorem dX3_splitSegment_106 : decode cX3_splitSegment 106 = .ok (.istore 10, 2) := by decide +kernel
theorem dX3_splitSegment_108 : decode cX3_splitSegment 108 = .ok (.aload_n 0, 1) := by decide +kernel
theorem dX3_splitSegment_109 : decode cX3_splitSegment 109 = .ok (.getfield 15, 3) := by decide +kernel
theorem dX3_splitSegment_112 : decode cX3_splitSegment 112 = .ok (.iload 10, 2) := by decide +kernel
theorem dX3_splitSegment_114 : decode cX3_splitSegment 114 = .ok (.iconst 4, 1) := by decide +kernel
theorem dX3_splitSegment_115 : decode cX3_splitSegment 115 = .ok (.aload_n 0, 1) := by decide +kernel
theorem dX3_splitSegment_116 : decode cX3_splitSegment 116 = .ok (.getfield 9, 3) := by decide +kernel
theorem dX3_splitSegment_119 : decode cX3_splitSegment 119 = .ok (.iload 10, 2) := by decide +kernel
theorem dX3_splitSegment_121 : decode cX3_splitSegment 121 = .ok (.iaload, 1) := by decide +kernel
theorem dX3_splitSegment_122 : decode cX3_splitSegment 122 = .ok (.imul, 1) := by decide +kernel
theorem dX3_splitSegment_123 : decode cX3_splitSegment 123 = .ok (.iload 6, 2) := by decide +kernel
theorem dX3_splitSegment_125 : decode cX3_splitSegment 125 = .ok (.isub, 1) := by decide +kernel
theorem dX3_splitSegment_126 : decode cX3_splitSegment 126 = .ok (.bipush 32, 2) := by decide +kernel
theorem dX3_splitSegment_128 : decode cX3_splitSegment 128 = .ok (.invokestatic 83, 3) := by decide +kernel
theorem dX3_splitSegment_131 : decode cX3_splitSegment 131 = .ok (.iastore, 1) := by decide +kernel
theorem dX3_splitSegment_132 : decode cX3_splitSegment 132 = .ok (.aload_n 0, 1) := by decide +kernel
theorem dX3_splitSegment_133 : decode cX3_splitSegment 133 = .ok (.getfield 18, 3) := by decide +kernel
theorem dX3_splitSegment_136 : decode cX3_splitSegment 136 = .ok (.iload 10, 2) := by decide +kernel
theorem dX3_splitSegment_138 : decode cX3_splitSegment 138 = .ok (.iload 5, 2) := by decide +kernel
theorem dX3_splitSegment_140 : decode cX3_splitSegment 140 = .ok (.iastore, 1) := by decide +kernel
theorem dX3_splitSegment_141 : decode cX3_splitSegment 141 = .ok (.aload_n 0, 1) := by decide +kernel
theorem dX3_splitSegment_142 : decode cX3_splitSegment 142 = .ok (.getfield 21, 3) := by decide +kernel
theorem dX3_splitSegment_145 : decode cX3_splitSegment 145 = .ok (.iload 10, 2) := by decide +kernel
theorem dX3_splitSegment_147 : decode cX3_splitSegment 147 = .ok (.iload 7, 2) := by decide +kernel
theorem dX3_splitSegment_149 : decode cX3_splitSegment 149 = .ok (.iastore, 1) := by decide +kernel
theorem dX3_splitSegment_150 : decode cX3_splitSegment 150 = .ok (.aload_n 0, 1) := by decide +kernel
theorem dX3_splitSegment_151 : decode cX3_splitSegment 151 = .ok (.getfield 24, 3) := by decide +kernel
theorem dX3_splitSegment_154 : decode cX3_splitSegment 154 = .ok (.iload 10, 2) := by decide +kernel
theorem dX3_splitSegment_156 : decode cX3_splitSegment 156 = .ok (.iload 8, 2) := by decide +kernel
theorem dX3_splitSegment_158 : decode cX3_splitSegment 158 = .ok (.iastore, 1) := by decide +kernel
theorem dX3_splitSegment_159 : decode cX3_splitSegment 159 = .ok (.return_, 1) := by decide +kernel
theorem dX3_chromaAt_0 : decode cX3_chromaAt 0 = .ok (.iconst 2, 1) := by decide +kernel
theorem dX3_chromaAt_1 : decode cX3_chromaAt 1 = .ok (.aload_n 0, 1) := by decide +kernel
theorem dX3_chromaAt_2 : decode cX3_chromaAt 2 = .ok (.aload_n 1, 1) := by decide +kernel
theorem dX3_chromaAt_3 : decode cX3_chromaAt 3 = .ok (.iload_n 2, 1) := by decide +kernel
theorem dX3_chromaAt_4 : decode cX3_chromaAt 4 = .ok (.iload_n 3, 1) := by decide +kernel
theorem dX3_chromaAt_5 : decode cX3_chromaAt 5 = .ok (.invokestatic 86, 3) := by decide +kernel
theorem dX3_chromaAt_8 : decode cX3_chromaAt 8 = .ok (.imul, 1) := by decide +kernel
theorem dX3_chromaAt_9 : decode cX3_chromaAt 9 = .ok (.istore 5, 2) := by decide +kernel
theorem dX3_chromaAt_11 : decode cX3_chromaAt 11 = .ok (.iload 4, 2) := by decide +kernel
theorem dX3_chromaAt_13 : decode cX3_chromaAt 13 = .ok (.tableswitch 80 1 3 #[27, 42, 57], 27) := by decide +kernel
theorem dX3_chromaAt_40 : decode cX3_chromaAt 40 = .ok (.iload 5, 2) := by decide +kernel
theorem dX3_chromaAt_42 : decode cX3_chromaAt 42 = .ok (.iconst 2, 1) := by decide +kernel
theorem dX3_chromaAt_43 : decode cX3_chromaAt 43 = .ok (.aload_n 0, 1) := by decide +kernel
theorem dX3_chromaAt_44 : decode cX3_chromaAt 44 = .ok (.aload_n 1, 1) := by decide +kernel
theorem dX3_chromaAt_45 : decode cX3_chromaAt 45 = .ok (.iload_n 2, 1) := by decide +kernel
theorem dX3_chromaAt_46 : decode cX3_chromaAt 46 = .ok (.iconst 1, 1) := by decide +kernel
theorem dX3_chromaAt_47 : decode cX3_chromaAt 47 = .ok (.isub, 1) := by decide +kernel
theorem dX3_chromaAt_48 : decode cX3_chromaAt 48 = .ok (.iload_n 3, 1) := by decide +kernel
theorem dX3_chromaAt_49 : decode cX3_chromaAt 49 = .ok (.invokestatic 86, 3) := by decide +kernel
theorem dX3_chromaAt_52 : decode cX3_chromaAt 52 = .ok (.imul, 1) := by decide +kernel
theorem dX3_chromaAt_53 : decode cX3_chromaAt 53 = .ok (.isub, 1) := by decide +kernel
theorem dX3_chromaAt_54 : decode cX3_chromaAt 54 = .ok (.ireturn, 1) := by decide +kernel
theorem dX3_chromaAt_55 : decode cX3_chromaAt 55 = .ok (.iload 5, 2) := by decide +kernel
theorem dX3_chromaAt_57 : decode cX3_chromaAt 57 = .ok (.iconst 2, 1) := by decide +kernel
theorem dX3_chromaAt_58 : decode cX3_chromaAt 58 = .ok (.aload_n 0, 1) := by decide +kernel
theorem dX3_chromaAt_59 : decode cX3_chromaAt 59 = .ok (.aload_n 1, 1) := by decide +kernel
theorem dX3_chromaAt_60 : decode cX3_chromaAt 60 = .ok (.iload_n 2, 1) := by decide +kernel
theorem dX3_chromaAt_61 : decode cX3_chromaAt 61 = .ok (.iconst 1, 1) := by decide +kernel
theorem dX3_chromaAt_62 : decode cX3_chromaAt 62 = .ok (.iadd, 1) := by decide +kernel
theorem dX3_chromaAt_63 : decode cX3_chromaAt 63 = .ok (.iload_n 3, 1) := by decide +kernel
theorem dX3_chromaAt_64 : decode cX3_chromaAt 64 = .ok (.invokestatic 86, 3) := by decide +kernel
theorem dX3_chromaAt_67 : decode cX3_chromaAt 67 = .ok (.imul, 1) := by decide +kernel
theorem dX3_chromaAt_68 : decode cX3_chromaAt 68 = .ok (.isub, 1) := by decide +kernel
theorem dX3_chromaAt_69 : decode cX3_chromaAt 69 = .ok (.ireturn, 1) := by decide +kernel
theorem dX3_chromaAt_70 : decode cX3_chromaAt 70 = .ok (.iload 5, 2) := by decide +kernel
theorem dX3_chromaAt_72 : decode cX3_chromaAt 72 = .ok (.aload_n 0, 1) := by decide +kernel
theorem dX3_chromaAt_73 : decode cX3_chromaAt 73 = .ok (.aload_n 1, 1) := by decide +kernel
theorem dX3_chromaAt_74 : decode cX3_chromaAt 74 = .ok (.iload_n 2, 1) := by decide +kernel
theorem dX3_chromaAt_75 : decode cX3_chromaAt 75 = .ok (.iconst 1, 1) := by decide +kernel
theorem dX3_chromaAt_76 : decode cX3_chromaAt 76 = .ok (.isub, 1) := by decide +kernel
theorem dX3_chromaAt_77 : decode cX3_chromaAt 77 = .ok (.iload_n 3, 1) := by decide +kernel
theorem dX3_chromaAt_78 : decode cX3_chromaAt 78 = .ok (.invokestatic 86, 3) := by decide +kernel
theorem dX3_chromaAt_81 : decode cX3_chromaAt 81 = .ok (.isub, 1) := by decide +kernel
theorem dX3_chromaAt_82 : decode cX3_chromaAt 82 = .ok (.aload_n 0, 1) := by decide +kernel
theorem dX3_chromaAt_83 : decode cX3_chromaAt 83 = .ok (.aload_n 1, 1) := by decide +kernel
theorem dX3_chromaAt_84 : decode cX3_chromaAt 84 = .ok (.iload_n 2, 1) := by decide +kernel
theorem dX3_chromaAt_85 : decode cX3_chromaAt 85 = .ok (.iconst 1, 1) := by decide +kernel
theorem dX3_chromaAt_86 : decode cX3_chromaAt 86 = .ok (.iadd, 1) := by decide +kernel
theorem dX3_chromaAt_87 : decode cX3_chromaAt 87 = .ok (.iload_n 3, 1) := by decide +kernel
theorem dX3_chromaAt_88 : decode cX3_chromaAt 88 = .ok (.invokestatic 86, 3) := by decide +kernel
theorem dX3_chromaAt_91 : decode cX3_chromaAt 91 = .ok (.isub, 1) := by decide +kernel
theorem dX3_chromaAt_92 : decode cX3_chromaAt 92 = .ok (.ireturn, 1) := by decide +kernel
theorem dX3_chromaAt_93 : decode cX3_chromaAt 93 = .ok (.iload 5, 2) := by decide +kernel
theorem dX3_chromaAt_95 : decode cX3_chromaAt 95 = .ok (.aload_n 0, 1) := by decide +kernel
theorem dX3_chromaAt_96 : decode cX3_chromaAt 96 = .ok (.aload_n 1, 1) := by decide +kernel
theorem dX3_chromaAt_97 : decode cX3_chromaAt 97 = .ok (.iload_n 2, 1) := by decide +kernel
theorem dX3_chromaAt_98 : decode cX3_chromaAt 98 = .ok (.iload_n 3, 1) := by decide +kernel
theorem dX3_chromaAt_99 : decode cX3_chromaAt 99 = .ok (.iconst 2, 1) := by decide +kernel
theorem dX3_chromaAt_100 : decode cX3_chromaAt 100 = .ok (.isub, 1) := by decide +kernel
theorem dX3_chromaAt_101 : decode cX3_chromaAt 101 = .ok (.invokestatic 86, 3) := by decide +kernel
theorem dX3_chromaAt_104 : decode cX3_chromaAt 104 = .ok (.isub, 1) := by decide +kernel
theorem dX3_chromaAt_105 : decode cX3_chromaAt 105 = .ok (.aload_n 0, 1) := by decide +kernel
theorem dX3_chromaAt_106 : decode cX3_chromaAt 106 = .ok (.aload_n 1, 1) := by decide +kernel
theorem dX3_chromaAt_107 : decode cX3_chromaAt 107 = .ok (.iload_n 2, 1) := by decide +kernel
theorem dX3_chromaAt_108 : decode cX3_chromaAt 108 = .ok (.iload_n 3, 1) := by decide +kernel
theorem dX3_chromaAt_109 : decode cX3_chromaAt 109 = .ok (.iconst 2, 1) := by decide +kernel
theorem dX3_chromaAt_110 : decode cX3_chromaAt 110 = .ok (.iadd, 1) := by decide +kernel
theorem dX3_chromaAt_111 : decode cX3_chromaAt 111 = .ok (.invokestatic 86, 3) := by decide +kernel
theorem dX3_chromaAt_114 : decode cX3_chromaAt 114 = .ok (.isub, 1) := by decide +kernel
theorem dX3_chromaAt_115 : decode cX3_chromaAt 115 = .ok (.ireturn, 1) := by decide +kernel
theorem dX3_sampleAt_0 : decode cX3_sampleAt 0 = .ok (.iload_n 2, 1) := by decide +kernel
theorem dX3_sampleAt_1 : decode cX3_sampleAt 1 = .ok (.invokestatic 90, 3) := by decide +kernel
theorem dX3_sampleAt_4 : decode cX3_sampleAt 4 = .ok (.ifCond .eq 16, 3) := by decide +kernel
theorem dX3_sampleAt_7 : decode cX3_sampleAt 7 = .ok (.aload_n 0, 1) := by decide +kernel
theorem dX3_sampleAt_8 : decode cX3_sampleAt 8 = .ok (.iload_n 2, 1) := by decide +kernel
theorem dX3_sampleAt_9 : decode cX3_sampleAt 9 = .ok (.aload_n 1, 1) := by decide +kernel
theorem dX3_sampleAt_10 : decode cX3_sampleAt 10 = .ok (.iload_n 2, 1) := by decide +kernel
theorem dX3_sampleAt_11 : decode cX3_sampleAt 11 = .ok (.iaload, 1) := by decide +kernel
theorem dX3_sampleAt_12 : decode cX3_sampleAt 12 = .ok (.iload_n 3, 1) := by decide +kernel
theorem dX3_sampleAt_13 : decode cX3_sampleAt 13 = .ok (.iadd, 1) := by decide +kernel
theorem dX3_sampleAt_14 : decode cX3_sampleAt 14 = .ok (.invokevirtual 94, 3) := by decide +kernel
theorem dX3_sampleAt_17 : decode cX3_sampleAt 17 = .ok (.goto 4, 3) := by decide +kernel
theorem dX3_sampleAt_20 : decode cX3_sampleAt 20 = .ok (.iconst 0, 1) := by decide +kernel
theorem dX3_sampleAt_21 : decode cX3_sampleAt 21 = .ok (.ireturn, 1) := by decide +kernel
theorem dX4_init_0 : decode cX4_init 0 = .ok (.aload_n 0, 1) := by decide +kernel
theorem dX4_init_1 : decode cX4_init 1 = .ok (.invokespecial 3, 3) := by decide +kernel
theorem dX4_init_4 : decode cX4_init 4 = .ok (.aload_n 0, 1) := by decide +kernel
theorem dX4_init_5 : decode cX4_init 5 = .ok (.bipush 8, 2) := by decide +kernel
theorem dX4_init_7 : decode cX4_init 7 = .ok (.newarray .int, 2) := by decide +kernel
theorem dX4_init_9 : decode cX4_init 9 = .ok (.putfield 9, 3) := by decide +kernel
theorem dX4_init_12 : decode cX4_init 12 = .ok (.aload_n 0, 1) := by decide +kernel
theorem dX4_init_13 : decode cX4_init 13 = .ok (.bipush 8, 2) := by decide +kernel
theorem dX4_init_15 : decode cX4_init 15 = .ok (.newarray .int, 2) := by decide +kernel
theorem dX4_init_17 : decode cX4_init 17 = .ok (.putfield 15, 3) := by decide +kernel
theorem dX4_init_20 : decode cX4_init 20 = .ok (.aload_n 0, 1) := by decide +kernel
theorem dX4_init_21 : decode cX4_init 21 = .ok (.bipush 8, 2) := by decide +kernel
theorem dX4_init_23 : decode cX4_init 23 = .ok (.newarray .int, 2) := by decide +kernel
theorem dX4_init_25 : decode cX4_init 25 = .ok (.putfield 18, 3) := by decide +kernel
theorem dX4_init_28 : decode cX4_init 28 = .ok (.aload_n 0, 1) := by decide +kernel
theorem dX4_init_29 : decode cX4_init 29 = .ok (.bipush 8, 2) := by decide +kernel
theorem dX4_init_31 : decode cX4_init 31 = .ok (.newarray .boolean, 2) := by decide +kernel
theorem dX4_init_33 : decode cX4_init 33 = .ok (.putfield 21, 3) := by decide +kernel
theorem dX4_init_36 : decode cX4_init 36 = .ok (.return_, 1) := by decide +kernel
theorem dX4_find_0 : decode cX4_find 0 = .ok (.aload_n 0, 1) := by decide +kernel
theorem dX4_find_1 : decode cX4_find 1 = .ok (.bipush 32, 2) := by decide +kernel
theorem dX4_find_3 : decode cX4_find 3 = .ok (.putfield 25, 3) := by decide +kernel
theorem dX4_find_6 : decode cX4_find 6 = .ok (.aload_n 0, 1) := by decide +kernel
theorem dX4_find_7 : decode cX4_find 7 = .ok (.iconst 0, 1) := by decide +kernel
theorem dX4_find_8 : decode cX4_find 8 = .ok (.putfield 29, 3) := by decide +kernel
theorem dX4_find_11 : decode cX4_find 11 = .ok (.aload_n 0, 1) := by decide +kernel
theorem dX4_find_12 : decode cX4_find 12 = .ok (.iconst 0, 1) := by decide +kernel
theorem dX4_find_13 : decode cX4_find 13 = .ok (.putfield 32, 3) := by decide +kernel
theorem dX4_find_16 : decode cX4_find 16 = .ok (.aload_n 0, 1) := by decide +kernel
theorem dX4_find_17 : decode cX4_find 17 = .ok (.iconst 0, 1) := by decide +kernel
theorem dX4_find_18 : decode cX4_find 18 = .ok (.putfield 35, 3) := by decide +kernel
theorem dX4_find_21 : decode cX4_find 21 = .ok (.iconst 0, 1) := by decide +kernel
theorem dX4_find_22 : decode cX4_find 22 = .ok (.istore_n 2, 1) := by decide +kernel
theorem dX4_find_23 : decode cX4_find 23 = .ok (.iload_n 2, 1) := by decide +kernel
theorem dX4_find_24 : decode cX4_find 24 = .ok (.bipush 8, 2) := by decide +kernel
theorem dX4_find_26 : decode cX4_find 26 = .ok (.if_icmp .ge 79, 3) := by decide +kernel
theorem dX4_find_29 : decode cX4_find 29 = .ok (.aload_n 1, 1) := by decide +kernel
theorem dX4_find_30 : decode cX4_find 30 = .ok (.iload_n 2, 1) := by decide +kernel
theorem dX4_find_31 : decode cX4_find 31 = .ok (.invokevirtual 39, 3) := by decide +kernel
theorem dX4_find_34 : decode cX4_find 34 = .ok (.istore_n 3, 1) := by decide +kernel
theorem dX4_find_35 : decode cX4_find 35 = .ok (.aload_n 0, 1) := by decide +kernel
theorem dX4_find_36 : decode cX4_find 36 = .ok (.iload_n 3, 1) := by decide +kernel
theorem dX4_find_37 : decode cX4_find 37 = .ok (.invokevirtual 45, 3) := by decide +kernel
theorem dX4_find_40 : decode cX4_find 40 = .ok (.aload_n 0, 1) := by decide +kernel
theorem dX4_find_41 : decode cX4_find 41 = .ok (.getfield 9, 3) := by decide +kernel
theorem dX4_find_44 : decode cX4_find 44 = .ok (.iload_n 2, 1) := by decide +kernel
theorem dX4_find_45 : decode cX4_find 45 = .ok (.iload_n 3, 1) := by decide +kernel
theorem dX4_find_46 : decode cX4_find 46 = .ok (.iastore, 1) := by decide +kernel
theorem dX4_find_47 : decode cX4_find 47 = .ok (.aload_n 0, 1) := by decide +kernel
theorem dX4_find_48 : decode cX4_find 48 = .ok (.getfield 18, 3) := by decide +kernel
theorem dX4_find_51 : decode cX4_find 51 = .ok (.iload_n 2, 1) := by decide +kernel
theorem dX4_find_52 : decode cX4_find 52 = .ok (.aload_n 0, 1) := by decide +kernel
theorem dX4_find_53 : decode cX4_find 53 = .ok (.getfield 25, 3) := by decide +kernel
theorem dX4_find_56 : decode cX4_find 56 = .ok (.iastore, 1) := by decide +kernel
theorem dX4_find_57 : decode cX4_find 57 = .ok (.aload_n 0, 1) := by decide +kernel
theorem dX4_find_58 : decode cX4_find 58 = .ok (.getfield 21, 3) := by decide +kernel
theorem dX4_find_61 : decode cX4_find 61 = .ok (.iload_n 2, 1) := by decide +kernel
theorem dX4_find_62 : decode cX4_find 62 = .ok (.aload_n 0, 1) := by decide +kernel
theorem dX4_find_63 : decode cX4_find 63 = .ok (.getfield 35, 3) := by decide +kernel
theorem dX4_find_66 : decode cX4_find 66 = .ok (.bastore, 1) := by decide +kernel
theorem dX4_find_67 : decode cX4_find 67 = .ok (.aload_n 0, 1) := by decide +kernel
theorem dX4_find_68 : decode cX4_find 68 = .ok (.getfield 15, 3) := by decide +kernel
theorem dX4_find_71 : decode cX4_find 71 = .ok (.iload_n 2, 1) := by decide +kernel
theorem dX4_find_72 : decode cX4_find 72 = .ok (.aload_n 0, 1) := by decide +kernel
theorem dX4_find_73 : decode cX4_find 73 = .ok (.getfield 35, 3) := by decide +kernel
theorem dX4_find_76 : decode cX4_find 76 = .ok (.ifCond .ne 8, 3) := by decide +kernel
theorem dX4_find_79 : decode cX4_find 79 = .ok (.iload_n 3, 1) := by decide +kernel
theorem dX4_find_80 : decode cX4_find 80 = .ok (.iconst (-1), 1) := by decide +kernel
theorem dX4_find_81 : decode cX4_find 81 = .ok (.if_icmp .ne 16, 3) := by decide +kernel
theorem dX4_find_84 : decode cX4_find 84 = .ok (.aload_n 0, 1) := by decide +kernel
theorem dX4_find_85 : decode cX4_find 85 = .ok (.getfield 25, 3) := by decide +kernel
theorem dX4_find_88 : decode cX4_find 88 = .ok (.iconst 2, 1) := by decide +kernel
theorem dX4_find_89 : decode cX4_find 89 = .ok (.iadd, 1) := by decide +kernel
theorem dX4_find_90 : decode cX4_find 90 = .ok (.iconst 4, 1) := by decide +kernel
theorem dX4_find_91 : decode cX4_find 91 = .ok (.invokestatic 49, 3) := by decide +kernel
theorem dX4_find_94 : decode cX4_find 94 = .ok (.goto 4, 3) := by decide +kernel
theorem dX4_find_97 : decode cX4_find 97 = .ok (.iload_n 3, 1) := by decide +kernel
theorem dX4_find_98 : decode cX4_find 98 = .ok (.iastore, 1) := by decide +kernel
theorem dX4_find_99 : decode cX4_find 99 = .ok (.iinc 2 1, 3) := by decide +kernel
theorem dX4_find_102 : decode cX4_find 102 = .ok (.goto (-79), 3) := by decide +kernel
theorem dX4_find_105 : decode cX4_find 105 = .ok (.return_, 1) := by decide +kernel
theorem dX4_steer_0 : decode cX4_steer 0 = .ok (.iconst 4, 1) := by decide +kernel
theorem dX4_steer_1 : decode cX4_steer 1 = .ok (.iload_n 1, 1) := by decide +kernel
theorem dX4_steer_2 : decode cX4_steer 2 = .ok (.imul, 1) := by decide +kernel
theorem dX4_steer_3 : decode cX4_steer 3 = .ok (.aload_n 0, 1) := by decide +kernel
theorem dX4_steer_4 : decode cX4_steer 4 = .ok (.getfield 25, 3) := by decide +kernel
theorem dX4_steer_7 : decode cX4_steer 7 = .ok (.isub, 1) := by decide +kernel
theorem dX4_steer_8 : decode cX4_steer 8 = .ok (.istore_n 2, 1) := by decide +kernel
theorem dX4_steer_9 : decode cX4_steer 9 = .ok (.iload_n 1, 1) := by decide +kernel
theorem dX4_steer_10 : decode cX4_steer 10 = .ok (.iconst (-1), 1) := by decide +kernel
theorem dX4_steer_11 : decode cX4_steer 11 = .ok (.if_icmp .eq 44, 3) := by decide +kernel
theorem dX4_steer_14 : decode cX4_steer 14 = .ok (.iload_n 2, 1) := by decide +kernel
theorem dX4_steer_15 : decode cX4_steer 15 = .ok (.bipush (-12), 2) := by decide +kernel
theorem dX4_steer_17 : decode cX4_steer 17 = .ok (.bipush 12, 2) := by decide +kernel
theorem dX4_steer_19 : decode cX4_steer 19 = .ok (.invokestatic 55, 3) := by decide +kernel
theorem dX4_steer_22 : decode cX4_steer 22 = .ok (.ifCond .eq 33, 3) := by decide +kernel
theorem dX4_steer_25 : decode cX4_steer 25 = .ok (.aload_n 0, 1) := by decide +kernel
theorem dX4_steer_26 : decode cX4_steer 26 = .ok (.dup, 1) := by decide +kernel
theorem dX4_steer_27 : decode cX4_steer 27 = .ok (.getfield 25, 3) := by decide +kernel
theorem dX4_steer_30 : decode cX4_steer 30 = .ok (.iload_n 2, 1) := by decide +kernel
theorem dX4_steer_31 : decode cX4_steer 31 = .ok (.iconst 2, 1) := by decide +kernel
theorem dX4_steer_32 : decode cX4_steer 32 = .ok (.idiv, 1) := by decide +kernel
theorem dX4_steer_33 : decode cX4_steer 33 = .ok (.iadd, 1) := by decide +kernel
theorem dX4_steer_34 : decode cX4_steer 34 = .ok (.putfield 25, 3) := by decide +kernel
theorem dX4_steer_37 : decode cX4_steer 37 = .ok (.aload_n 0, 1) := by decide +kernel
theorem dX4_steer_38 : decode cX4_steer 38 = .ok (.dup, 1) := by decide +kernel
theorem dX4_steer_39 : decode cX4_steer 39 = .ok (.getfield 29, 3) := by decide +kernel
theorem dX4_steer_42 : decode cX4_steer 42 = .ok (.iconst 1, 1) := by decide +kernel
theorem dX4_steer_43 : decode cX4_steer 43 = .ok (.iadd, 1) := by decide +kernel
theorem dX4_steer_44 : decode cX4_steer 44 = .ok (.putfield 29, 3) := by decide +kernel
theorem dX4_steer_47 : decode cX4_steer 47 = .ok (.aload_n 0, 1) := by decide +kernel
theorem dX4_steer_48 : decode cX4_steer 48 = .ok (.iconst 0, 1) := by decide +kernel
theorem dX4_steer_49 : decode cX4_steer 49 = .ok (.putfield 32, 3) := by decide +kernel
theorem dX4_steer_52 : decode cX4_steer 52 = .ok (.goto 37, 3) := by decide +kernel
theorem dX4_steer_55 : decode cX4_steer 55 = .ok (.aload_n 0, 1) := by decide +kernel
theorem dX4_steer_56 : decode cX4_steer 56 = .ok (.dup, 1) := by decide +kernel
theorem dX4_steer_57 : decode cX4_steer 57 = .ok (.getfield 32, 3) := by decide +kernel
theorem dX4_steer_60 : decode cX4_steer 60 = .ok (.iconst 1, 1) := by decide +kernel
theorem dX4_steer_61 : decode cX4_steer 61 = .ok (.iadd, 1) := by decide +kernel
theorem dX4_steer_62 : decode cX4_steer 62 = .ok (.putfield 32, 3) := by decide +kernel
theorem dX4_steer_65 : decode cX4_steer 65 = .ok (.aload_n 0, 1) := by decide +kernel
theorem dX4_steer_66 : decode cX4_steer 66 = .ok (.iconst 0, 1) := by decide +kernel
theorem dX4_steer_67 : decode cX4_steer 67 = .ok (.putfield 29, 3) := by decide +kernel
theorem dX4_steer_70 : decode cX4_steer 70 = .ok (.iload_n 1, 1) := by decide +kernel
theorem dX4_steer_71 : decode cX4_steer 71 = .ok (.iconst (-1), 1) := by decide +kernel
theorem dX4_steer_72 : decode cX4_steer 72 = .ok (.if_icmp .eq 17, 3) := by decide +kernel
theorem dX4_steer_75 : decode cX4_steer 75 = .ok (.aload_n 0, 1) := by decide +kernel
theorem dX4_steer_76 : decode cX4_steer 76 = .ok (.getfield 35, 3) := by decide +kernel
theorem dX4_steer_79 : decode cX4_steer 79 = .ok (.ifCond .ne 10, 3) := by decide +kernel
theorem dX4_steer_82 : decode cX4_steer 82 = .ok (.aload_n 0, 1) := by decide +kernel
theorem dX4_steer_83 : decode cX4_steer 83 = .ok (.iconst 4, 1) := by decide +kernel
theorem dX4_steer_84 : decode cX4_steer 84 = .ok (.iload_n 1, 1) := by decide +kernel
theorem dX4_steer_85 : decode cX4_steer 85 = .ok (.imul, 1) := by decide +kernel
theorem dX4_steer_86 : decode cX4_steer 86 = .ok (.putfield 25, 3) := by decide +kernel
theorem dX4_steer_89 : decode cX4_steer 89 = .ok (.aload_n 0, 1) := by decide +kernel
theorem dX4_steer_90 : decode cX4_steer 90 = .ok (.getfield 29, 3) := by decide +kernel
theorem dX4_steer_93 : decode cX4_steer 93 = .ok (.iconst 2, 1) := by decide +kernel
theorem dX4_steer_94 : decode cX4_steer 94 = .ok (.if_icmp .lt 8, 3) := by decide +kernel
theorem dX4_steer_97 : decode cX4_steer 97 = .ok (.aload_n 0, 1) := by decide +kernel
theorem dX4_steer_98 : decode cX4_steer 98 = .ok (.iconst 1, 1) := by decide +kernel
theorem dX4_steer_99 : decode cX4_steer 99 = .ok (.putfield 35, 3) := by decide +kernel
theorem dX4_steer_102 : decode cX4_steer 102 = .ok (.aload_n 0, 1) := by decide +kernel
theorem dX4_steer_103 : decode cX4_steer 103 = .ok (.getfield 32, 3) := by decide +kernel
theorem dX4_steer_106 : decode cX4_steer 106 = .ok (.iconst 4, 1) := by decide +kernel
theorem dX4_steer_107 : decode cX4_steer 107 = .ok (.if_icmp .lt 8, 3) := by decide +kernel
theorem dX4_steer_110 : decode cX4_steer 110 = .ok (.aload_n 0, 1) := by decide +kernel
theorem dX4_steer_111 : decode cX4_steer 111 = .ok (.iconst 0, 1) := by decide +kernel
theorem dX4_steer_112 : decode cX4_steer 112 = .ok (.putfield 35, 3) := by decide +kernel
theorem dX4_steer_115 : decode cX4_steer 115 = .ok (.return_, 1) := by decide +kernel
theorem dX5_init_0 : decode cX5_init 0 = .ok (.aload_n 0, 1) := by decide +kernel
theorem dX5_init_1 : decode cX5_init 1 = .ok (.invokespecial 3, 3) := by decide +kernel
theorem dX5_init_4 : decode cX5_init 4 = .ok (.aload_n 0, 1) := by decide +kernel
theorem dX5_init_5 : decode cX5_init 5 = .ok (.bipush 80, 2) := by decide +kernel
theorem dX5_init_7 : decode cX5_init 7 = .ok (.newarray .int, 2) := by decide +kernel
theorem dX5_init_9 : decode cX5_init 9 = .ok (.putfield 9, 3) := by decide +kernel
theorem dX5_init_12 : decode cX5_init 12 = .ok (.aload_n 0, 1) := by decide +kernel
theorem dX5_init_13 : decode cX5_init 13 = .ok (.bipush 80, 2) := by decide +kernel
theorem dX5_init_15 : decode cX5_init 15 = .ok (.newarray .boolean, 2) := by decide +kernel
theorem dX5_init_17 : decode cX5_init 17 = .ok (.putfield 15, 3) := by decide +kernel
theorem dX5_init_20 : decode cX5_init 20 = .ok (.aload_n 0, 1) := by decide +kernel
theorem dX5_init_21 : decode cX5_init 21 = .ok (.bipush 80, 2) := by decide +kernel
theorem dX5_init_23 : decode cX5_init 23 = .ok (.newarray .int, 2) := by decide +kernel
theorem dX5_init_25 : decode cX5_init 25 = .ok (.putfield 19, 3) := by decide +kernel
theorem dX5_init_28 : decode cX5_init 28 = .ok (.return_, 1) := by decide +kernel
theorem dX5_watch_0 : decode cX5_watch 0 = .ok (.iload_n 3, 1) := by decide +kernel
theorem dX5_watch_1 : decode cX5_watch 1 = .ok (.ifCond .eq 102, 3) := by decide +kernel
theorem dX5_watch_4 : decode cX5_watch 4 = .ok (.iconst 0, 1) := by decide +kernel
theorem dX5_watch_5 : decode cX5_watch 5 = .ok (.istore 4, 2) := by decide +kernel
theorem dX5_watch_7 : decode cX5_watch 7 = .ok (.iload 4, 2) := by decide +kernel
theorem dX5_watch_9 : decode cX5_watch 9 = .ok (.bipush 80, 2) := by decide +kernel
theorem dX5_watch_11 : decode cX5_watch 11 = .ok (.if_icmp .ge 40, 3) := by decide +kernel
theorem dX5_watch_14 : decode cX5_watch 14 = .ok (.aload_n 0, 1) := by decide +kernel
theorem dX5_watch_15 : decode cX5_watch 15 = .ok (.getfield 15, 3) := by decide +kernel
theorem dX5_watch_18 : decode cX5_watch 18 = .ok (.iload 4, 2) := by decide +kernel
theorem dX5_watch_20 : decode cX5_watch 20 = .ok (.aload_n 1, 1) := by decide +kernel
theorem dX5_watch_21 : decode cX5_watch 21 = .ok (.iload 4, 2) := by decide +kernel
theorem dX5_watch_23 : decode cX5_watch 23 = .ok (.iaload, 1) := by decide +kernel
theorem dX5_watch_24 : decode cX5_watch 24 = .ok (.aload_n 0, 1) := by decide +kernel
theorem dX5_watch_25 : decode cX5_watch 25 = .ok (.getfield 9, 3) := by decide +kernel
theorem dX5_watch_28 : decode cX5_watch 28 = .ok (.iload 4, 2) := by decide +kernel
theorem dX5_watch_30 : decode cX5_watch 30 = .ok (.iaload, 1) := by decide +kernel
theorem dX5_watch_31 : decode cX5_watch 31 = .ok (.isub, 1) := by decide +kernel
theorem dX5_watch_32 : decode cX5_watch 32 = .ok (.invokestatic 22, 3) := by decide +kernel
theorem dX5_watch_35 : decode cX5_watch 35 = .ok (.iload_n 2, 1) := by decide +kernel
theorem dX5_watch_36 : decode cX5_watch 36 = .ok (.if_icmp .le 7, 3) := by decide +kernel
theorem dX5_watch_39 : decode cX5_watch 39 = .ok (.iconst 1, 1) := by decide +kernel
theorem dX5_watch_40 : decode cX5_watch 40 = .ok (.goto 4, 3) := by decide +kernel
theorem dX5_watch_43 : decode cX5_watch 43 = .ok (.iconst 0, 1) := by decide +kernel
theorem dX5_watch_44 : decode cX5_watch 44 = .ok (.bastore, 1) := by decide +kernel
theorem dX5_watch_45 : decode cX5_watch 45 = .ok (.iinc 4 1, 3) := by decide +kernel
theorem dX5_watch_48 : decode cX5_watch 48 = .ok (.goto (-41), 3) := by decide +kernel
theorem dX5_watch_51 : decode cX5_watch 51 = .ok (.iconst 0, 1) := by decide +kernel
theorem dX5_watch_52 : decode cX5_watch 52 = .ok (.istore 4, 2) := by decide +kernel
theorem dX5_watch_54 : decode cX5_watch 54 = .ok (.iload 4, 2) := by decide +kernel
theorem dX5_watch_56 : decode cX5_watch 56 = .ok (.bipush 8, 2) := by decide +kernel
theorem dX5_watch_58 : decode cX5_watch 58 = .ok (.if_icmp .ge 45, 3) := by decide +kernel
theorem dX5_watch_61 : decode cX5_watch 61 = .ok (.iconst 0, 1) := by decide +kernel
theorem dX5_watch_62 : decode cX5_watch 62 = .ok (.istore 5, 2) := by decide +kernel
theorem dX5_watch_64 : decode cX5_watch 64 = .ok (.iload 5, 2) := by decide +kernel
theorem dX5_watch_66 : decode cX5_watch 66 = .ok (.bipush 10, 2) := by decide +kernel
theorem dX5_watch_68 : decode cX5_watch 68 = .ok (.if_icmp .ge 29, 3) := by decide +kernel
theorem dX5_watch_71 : decode cX5_watch 71 = .ok (.aload_n 0, 1) := by decide +kernel
theorem dX5_watch_72 : decode cX5_watch 72 = .ok (.getfield 19, 3) := by decide +kernel
theorem dX5_watch_75 : decode cX5_watch 75 = .ok (.iload 4, 2) := by decide +kernel
theorem dX5_watch_77 : decode cX5_watch 77 = .ok (.iload 5, 2) := by decide +kernel
theorem dX5_watch_79 : decode cX5_watch 79 = .ok (.invokestatic 28, 3) := by decide +kernel
theorem dX5_watch_82 : decode cX5_watch 82 = .ok (.aload_n 0, 1) := by decide +kernel
theorem dX5_watch_83 : decode cX5_watch 83 = .ok (.iload 4, 2) := by decide +kernel
theorem dX5_watch_85 : decode cX5_watch 85 = .ok (.iload 5, 2) := by decide +kernel
theorem dX5_watch_87 : decode cX5_watch 87 = .ok (.invokevirtual 32, 3) := by decide +kernel
theorem dX5_watch_90 : decode cX5_watch 90 = .ok (.iastore, 1) := by decide +kernel
theorem dX5_watch_91 : decode cX5_watch 91 = .ok (.iinc 5 1, 3) := by decide +kernel
theorem dX5_watch_94 : decode cX5_watch 94 = .ok (.goto (-30), 3) := by decide +kernel
theorem dX5_watch_97 : decode cX5_watch 97 = .ok (.iinc 4 1, 3) := by decide +kernel
theorem dX5_watch_100 : decode cX5_watch 100 = .ok (.goto (-46), 3) := by decide +kernel
theorem dX5_watch_103 : decode cX5_watch 103 = .ok (.aload_n 1, 1) := by decide +kernel
theorem dX5_watch_104 : decode cX5_watch 104 = .ok (.iconst 0, 1) := by decide +kernel
theorem dX5_watch_105 : decode cX5_watch 105 = .ok (.aload_n 0, 1) := by decide +kernel
theorem dX5_watch_106 : decode cX5_watch 106 = .ok (.getfield 9, 3) := by decide +kernel
theorem dX5_watch_109 : decode cX5_watch 109 = .ok (.iconst 0, 1) := by decide +kernel
theorem dX5_watch_110 : decode cX5_watch 110 = .ok (.bipush 80, 2) := by decide +kernel
theorem dX5_watch_112 : decode cX5_watch 112 = .ok (.invokestatic 35, 3) := by decide +kernel
theorem dX5_watch_115 : decode cX5_watch 115 = .ok (.return_, 1) := by decide +kernel
theorem dX5_kindOf_0 : decode cX5_kindOf 0 = .ok (.aload_n 0, 1) := by decide +kernel
theorem dX5_kindOf_1 : decode cX5_kindOf 1 = .ok (.iload_n 1, 1) := by decide +kernel
theorem dX5_kindOf_2 : decode cX5_kindOf 2 = .ok (.iload_n 2, 1) := by decide +kernel
theorem dX5_kindOf_3 : decode cX5_kindOf 3 = .ok (.invokevirtual 41, 3) := by decide +kernel
theorem dX5_kindOf_6 : decode cX5_kindOf 6 = .ok (.ifCond .ne 5, 3) := by decide +kernel
theorem dX5_kindOf_9 : decode cX5_kindOf 9 = .ok (.iconst 0, 1) := by decide +kernel
theorem dX5_kindOf_10 : decode cX5_kindOf 10 = .ok (.ireturn, 1) := by decide +kernel
theorem dX5_kindOf_11 : decode cX5_kindOf 11 = .ok (.aload_n 0, 1) := by decide +kernel
theorem dX5_kindOf_12 : decode cX5_kindOf 12 = .ok (.iload_n 1, 1) := by decide +kernel
theorem dX5_kindOf_13 : decode cX5_kindOf 13 = .ok (.iload_n 2, 1) := by decide +kernel
theorem dX5_kindOf_14 : decode cX5_kindOf 14 = .ok (.iconst 1, 1) := by decide +kernel
theorem dX5_kindOf_15 : decode cX5_kindOf 15 = .ok (.isub, 1) := by decide +kernel
theorem dX5_kindOf_16 : decode cX5_kindOf 16 = .ok (.invokevirtual 41, 3) := by decide +kernel
theorem dX5_kindOf_19 : decode cX5_kindOf 19 = .ok (.ifCond .ne 14, 3) := by decide +kernel
theorem dX5_kindOf_22 : decode cX5_kindOf 22 = .ok (.aload_n 0, 1) := by decide +kernel
theorem dX5_kindOf_23 : decode cX5_kindOf 23 = .ok (.iload_n 1, 1) := by decide +kernel
theorem dX5_kindOf_24 : decode cX5_kindOf 24 = .ok (.iload_n 2, 1) := by decide +kernel
theorem dX5_kindOf_25 : decode cX5_kindOf 25 = .ok (.iconst 1, 1) := by decide +kernel
theorem dX5_kindOf_26 : decode cX5_kindOf 26 = .ok (.iadd, 1) := by decide +kernel
theorem dX5_kindOf_27 : decode cX5_kindOf 27 = .ok (.invokevirtual 41, 3) := by decide +kernel
theorem dX5_kindOf_30 : decode cX5_kindOf 30 = .ok (.ifCond .eq 7, 3) := by decide +kernel
theorem dX5_kindOf_33 : decode cX5_kindOf 33 = .ok (.iconst 1, 1) := by decide +kernel
theorem dX5_kindOf_34 : decode cX5_kindOf 34 = .ok (.goto 4, 3) := by decide +kernel
theorem dX5_kindOf_37 : decode cX5_kindOf 37 = .ok (.iconst 0, 1) := by decide +kernel
theorem dX5_kindOf_38 : decode cX5_kindOf 38 = .ok (.istore_n 3, 1) := by decide +kernel
theorem dX5_kindOf_39 : decode cX5_kindOf 39 = .ok (.aload_n 0, 1) := by decide +kernel
theorem dX5_kindOf_40 : decode cX5_kindOf 40 = .ok (.iload_n 1, 1) := by decide +kernel
theorem dX5_kindOf_41 : decode cX5_kindOf 41 = .ok (.iconst 1, 1) := by decide +kernel
theorem dX5_kindOf_42 : decode cX5_kindOf 42 = .ok (.isub, 1) := by decide +kernel
theorem dX5_kindOf_43 : decode cX5_kindOf 43 = .ok (.iload_n 2, 1) := by decide +kernel
theorem dX5_kindOf_44 : decode cX5_kindOf 44 = .ok (.invokevirtual 41, 3) := by decide +kernel
theorem dX5_kindOf_47 : decode cX5_kindOf 47 = .ok (.ifCond .ne 14, 3) := by decide +kernel
theorem dX5_kindOf_50 : decode cX5_kindOf 50 = .ok (.aload_n 0, 1) := by decide +kernel
theorem dX5_kindOf_51 : decode cX5_kindOf 51 = .ok (.iload_n 1, 1) := by decide +kernel
theorem dX5_kindOf_52 : decode cX5_kindOf 52 = .ok (.iconst 1, 1) := by decide +kernel
theorem dX5_kindOf_53 : decode cX5_kindOf 53 = .ok (.iadd, 1) := by decide +kernel
theorem dX5_kindOf_54 : decode cX5_kindOf 54 = .ok (.iload_n 2, 1) := by decide +kernel
theorem dX5_kindOf_55 : decode cX5_kindOf 55 = .ok (.invokevirtual 41, 3) := by decide +kernel
theorem dX5_kindOf_58 : decode cX5_kindOf 58 = .ok (.ifCond .eq 7, 3) := by decide +kernel
theorem dX5_kindOf_61 : decode cX5_kindOf 61 = .ok (.iconst 1, 1) := by decide +kernel
theorem dX5_kindOf_62 : decode cX5_kindOf 62 = .ok (.goto 4, 3) := by decide +kernel
theorem dX5_kindOf_65 : decode cX5_kindOf 65 = .ok (.iconst 0, 1) := by decide +kernel
theorem dX5_kindOf_66 : decode cX5_kindOf 66 = .ok (.istore 4, 2) := by decide +kernel
theorem dX5_kindOf_68 : decode cX5_kindOf 68 = .ok (.iload_n 3, 1) := by decide +kernel
theorem dX5_kindOf_69 : decode cX5_kindOf 69 = .ok (.ifCond .ne 8, 3) := by decide +kernel
theorem dX5_kindOf_72 : decode cX5_kindOf 72 = .ok (.iload 4, 2) := by decide +kernel
theorem dX5_kindOf_74 : decode cX5_kindOf 74 = .ok (.ifCond .eq 7, 3) := by decide +kernel
theorem dX5_kindOf_77 : decode cX5_kindOf 77 = .ok (.iconst 2, 1) := by decide +kernel
theorem dX5_kindOf_78 : decode cX5_kindOf 78 = .ok (.goto 4, 3) := by decide +kernel
theorem dX5_kindOf_81 : decode cX5_kindOf 81 = .ok (.iconst 1, 1) := by decide +kernel
theorem dX5_kindOf_82 : decode cX5_kindOf 82 = .ok (.ireturn, 1) := by decide +kernel
theorem dX5_hasChanged_0 : decode cX5_hasChanged 0 = .ok (.iload_n 1, 1) := by decide +kernel
theorem dX5_hasChanged_1 : decode cX5_hasChanged 1 = .ok (.iload_n 2, 1) := by decide +kernel
theorem dX5_hasChanged_2 : decode cX5_hasChanged 2 = .ok (.invokestatic 45, 3) := by decide +kernel
theorem dX5_hasChanged_5 : decode cX5_hasChanged 5 = .ok (.ifCond .eq 20, 3) := by decide +kernel
theorem dX5_hasChanged_8 : decode cX5_hasChanged 8 = .ok (.aload_n 0, 1) := by decide +kernel
theorem dX5_hasChanged_9 : decode cX5_hasChanged 9 = .ok (.getfield 15, 3) := by decide +kernel
theorem dX5_hasChanged_12 : decode cX5_hasChanged 12 = .ok (.iload_n 1, 1) := by decide +kernel
theorem dX5_hasChanged_13 : decode cX5_hasChanged 13 = .ok (.iload_n 2, 1) := by decide +kernel
theorem dX5_hasChanged_14 : decode cX5_hasChanged 14 = .ok (.invokestatic 28, 3) := by decide +kernel
theorem dX5_hasChanged_17 : decode cX5_hasChanged 17 = .ok (.baload, 1) := by decide +kernel
theorem dX5_hasChanged_18 : decode cX5_hasChanged 18 = .ok (.ifCond .eq 7, 3) := by decide +kernel
theorem dX5_hasChanged_21 : decode cX5_hasChanged 21 = .ok (.iconst 1, 1) := by decide +kernel
theorem dX5_hasChanged_22 : decode cX5_hasChanged 22 = .ok (.goto 4, 3) := by decide +kernel
theorem dX5_hasChanged_25 : decode cX5_hasChanged 25 = .ok (.iconst 0, 1) := by decide +kernel
theorem dX5_hasChanged_26 : decode cX5_hasChanged 26 = .ok (.ireturn, 1) := by decide +kernel
theorem dX6_init_0 : decode cX6_init 0 = .ok (.aload_n 0, 1) := by decide +kernel
theorem dX6_init_1 : decode cX6_init 1 = .ok (.invokespecial 3, 3) := by decide +kernel
theorem dX6_init_4 : decode cX6_init 4 = .ok (.aload_n 0, 1) := by decide +kernel
theorem dX6_init_5 : decode cX6_init 5 = .ok (.bipush 8, 2) := by decide +kernel
theorem dX6_init_7 : decode cX6_init 7 = .ok (.newarray .float, 2) := by decide +kernel
theorem dX6_init_9 : decode cX6_init 9 = .ok (.putfield 9, 3) := by decide +kernel
theorem dX6_init_12 : decode cX6_init 12 = .ok (.aload_n 0, 1) := by decide +kernel
theorem dX6_init_13 : decode cX6_init 13 = .ok (.bipush 8, 2) := by decide +kernel
theorem dX6_init_15 : decode cX6_init 15 = .ok (.newarray .float, 2) := by decide +kernel
theorem dX6_init_17 : decode cX6_init 17 = .ok (.putfield 15, 3) := by decide +kernel
theorem dX6_init_20 : decode cX6_init 20 = .ok (.return_, 1) := by decide +kernel
theorem dX6_follow_0 : decode cX6_follow 0 = .ok (.fconst 0, 1) := by decide +kernel
theorem dX6_follow_1 : decode cX6_follow 1 = .ok (.fstore_n 3, 1) := by decide +kernel
theorem dX6_follow_2 : decode cX6_follow 2 = .ok (.fconst 0, 1) := by decide +kernel
theorem dX6_follow_3 : decode cX6_follow 3 = .ok (.fstore 4, 2) := by decide +kernel
theorem dX6_follow_5 : decode cX6_follow 5 = .ok (.iconst 1, 1) := by decide +kernel
theorem dX6_follow_6 : decode cX6_follow 6 = .ok (.istore 5, 2) := by decide +kernel
theorem dX6_follow_8 : decode cX6_follow 8 = .ok (.iconst 0, 1) := by decide +kernel
theorem dX6_follow_9 : decode cX6_follow 9 = .ok (.istore 6, 2) := by decide +kernel
theorem dX6_follow_11 : decode cX6_follow 11 = .ok (.iload 6, 2) := by decide +kernel
theorem dX6_follow_13 : decode cX6_follow 13 = .ok (.bipush 8, 2) := by decide +kernel
theorem dX6_follow_15 : decode cX6_follow 15 = .ok (.if_icmp .ge 106, 3) := by decide +kernel
theorem dX6_follow_18 : decode cX6_follow 18 = .ok (.aload_n 1, 1) := by decide +kernel
theorem dX6_follow_19 : decode cX6_follow 19 = .ok (.getfield 18, 3) := by decide +kernel
theorem dX6_follow_22 : decode cX6_follow 22 = .ok (.iload 6, 2) := by decide +kernel
theorem dX6_follow_24 : decode cX6_follow 24 = .ok (.baload, 1) := by decide +kernel
theorem dX6_follow_25 : decode cX6_follow 25 = .ok (.ifCond .eq 73, 3) := by decide +kernel
theorem dX6_follow_28 : decode cX6_follow 28 = .ok (.aload_n 1, 1) := by decide +kernel
theorem dX6_follow_29 : decode cX6_follow 29 = .ok (.getfield 24, 3) := by decide +kernel
theorem dX6_follow_32 : decode cX6_follow 32 = .ok (.iload 6, 2) := by decide +kernel
theorem dX6_follow_34 : decode cX6_follow 34 = .ok (.iload_n 2, 1) := by decide +kernel
theorem dX6_follow_35 : decode cX6_follow 35 = .ok (.invokestatic 27, 3) := by decide +kernel
theorem dX6_follow_38 : decode cX6_follow 38 = .ok (.fstore 7, 2) := by decide +kernel
theorem dX6_follow_40 : decode cX6_follow 40 = .ok (.aload_n 1, 1) := by decide +kernel
theorem dX6_follow_41 : decode cX6_follow 41 = .ok (.getfield 31, 3) := by decide +kernel
theorem dX6_follow_44 : decode cX6_follow 44 = .ok (.iload 6, 2) := by decide +kernel
theorem dX6_follow_46 : decode cX6_follow 46 = .ok (.iload_n 2, 1) := by decide +kernel
theorem dX6_follow_47 : decode cX6_follow 47 = .ok (.invokestatic 27, 3) := by decide +kernel
theorem dX6_follow_50 : decode cX6_follow 50 = .ok (.fstore 8, 2) := by decide +kernel
theorem dX6_follow_52 : decode cX6_follow 52 = .ok (.iload 5, 2) := by decide +kernel
theorem dX6_follow_54 : decode cX6_follow 54 = .ok (.ifCond .eq 8, 3) := by decide +kernel
theorem dX6_follow_57 : decode cX6_follow 57 = .ok (.fload 7, 2) := by decide +kernel
theorem dX6_follow_59 : decode cX6_follow 59 = .ok (.goto 12, 3) := by decide +kernel
theorem dX6_follow_62 : decode cX6_follow 62 = .ok (.fload_n 3, 1) := by decide +kernel
theorem dX6_follow_63 : decode cX6_follow 63 = .ok (.fload 7, 2) := by decide +kernel
theorem dX6_follow_65 : decode cX6_follow 65 = .ok (.fload_n 3, 1) := by decide +kernel
theorem dX6_follow_66 : decode cX6_follow 66 = .ok (.fsub, 1) := by decide +kernel
theorem dX6_follow_67 : decode cX6_follow 67 = .ok (.ldc 33, 2) := by decide +kernel
theorem dX6_follow_69 : decode cX6_follow 69 = .ok (.fmul, 1) := by decide +kernel
theorem dX6_follow_70 : decode cX6_follow 70 = .ok (.fadd, 1) := by decide +kernel
theorem dX6_follow_71 : decode cX6_follow 71 = .ok (.fstore_n 3, 1) := by decide +kernel
theorem dX6_follow_72 : decode cX6_follow 72 = .ok (.iload 5, 2) := by decide +kernel
theorem dX6_follow_74 : decode cX6_follow 74 = .ok (.ifCond .eq 8, 3) := by decide +kernel
theorem dX6_follow_77 : decode cX6_follow 77 = .ok (.fload 8, 2) := by decide +kernel
theorem dX6_follow_79 : decode cX6_follow 79 = .ok (.goto 14, 3) := by decide +kernel
theorem dX6_follow_82 : decode cX6_follow 82 = .ok (.fload 4, 2) := by decide +kernel
theorem dX6_follow_84 : decode cX6_follow 84 = .ok (.fload 8, 2) := by decide +kernel
theorem dX6_follow_86 : decode cX6_follow 86 = .ok (.fload 4, 2) := by decide +kernel
theorem dX6_follow_88 : decode cX6_follow 88 = .ok (.fsub, 1) := by decide +kernel
theorem dX6_follow_89 : decode cX6_follow 89 = .ok (.ldc 33, 2) := by decide +kernel
theorem dX6_follow_91 : decode cX6_follow 91 = .ok (.fmul, 1) := by decide +kernel
theorem dX6_follow_92 : decode cX6_follow 92 = .ok (.fadd, 1) := by decide +kernel
theorem dX6_follow_93 : decode cX6_follow 93 = .ok (.fstore 4, 2) := by decide +kernel
theorem dX6_follow_95 : decode cX6_follow 95 = .ok (.iconst 0, 1) := by decide +kernel
theorem dX6_follow_96 : decode cX6_follow 96 = .ok (.istore 5, 2) := by decide +kernel
theorem dX6_follow_98 : decode cX6_follow 98 = .ok (.aload_n 0, 1) := by decide +kernel
theorem dX6_follow_99 : decode cX6_follow 99 = .ok (.getfield 9, 3) := by decide +kernel
theorem dX6_follow_102 : decode cX6_follow 102 = .ok (.iload 6, 2) := by decide +kernel
theorem dX6_follow_104 : decode cX6_follow 104 = .ok (.fload_n 3, 1) := by decide +kernel
theorem dX6_follow_105 : decode cX6_follow 105 = .ok (.fastore, 1) := by decide +kernel
theorem dX6_follow_106 : decode cX6_follow 106 = .ok (.aload_n 0, 1) := by decide +kernel
theorem dX6_follow_107 : decode cX6_follow 107 = .ok (.getfield 15, 3) := by decide +kernel
theorem dX6_follow_110 : decode cX6_follow 110 = .ok (.iload 6, 2) := by decide +kernel
theorem dX6_follow_112 : decode cX6_follow 112 = .ok (.fload 4, 2) := by decide +kernel
theorem dX6_follow_114 : decode cX6_follow 114 = .ok (.fastore, 1) := by decide +kernel
theorem dX6_follow_115 : decode cX6_follow 115 = .ok (.iinc 6 1, 3) := by decide +kernel
theorem dX6_follow_118 : decode cX6_follow 118 = .ok (.goto (-107), 3) := by decide +kernel
theorem dX6_follow_121 : decode cX6_follow 121 = .ok (.return_, 1) := by decide +kernel
theorem dX6_aimOf_0 : decode cX6_aimOf 0 = .ok (.iload_n 2, 1) := by decide +kernel
theorem dX6_aimOf_1 : decode cX6_aimOf 1 = .ok (.iconst 1, 1) := by decide +kernel
theorem dX6_aimOf_2 : decode cX6_aimOf 2 = .ok (.if_icmp .ne 8, 3) := by decide +kernel
theorem dX6_aimOf_5 : decode cX6_aimOf 5 = .ok (.iload_n 1, 1) := by decide +kernel
theorem dX6_aimOf_6 : decode cX6_aimOf 6 = .ok (.iconst 1, 1) := by decide +kernel
theorem dX6_aimOf_7 : decode cX6_aimOf 7 = .ok (.if_icmp .ge 9, 3) := by decide +kernel
theorem dX6_aimOf_10 : decode cX6_aimOf 10 = .ok (.aload_n 0, 1) := by decide +kernel
theorem dX6_aimOf_11 : decode cX6_aimOf 11 = .ok (.iload_n 1, 1) := by decide +kernel
theorem dX6_aimOf_12 : decode cX6_aimOf 12 = .ok (.iaload, 1) := by decide +kernel
theorem dX6_aimOf_13 : decode cX6_aimOf 13 = .ok (.ineg, 1) := by decide +kernel
theorem dX6_aimOf_14 : decode cX6_aimOf 14 = .ok (.i2f, 1) := by decide +kernel
theorem dX6_aimOf_15 : decode cX6_aimOf 15 = .ok (.freturn, 1) := by decide +kernel
theorem dX6_aimOf_16 : decode cX6_aimOf 16 = .ok (.aload_n 0, 1) := by decide +kernel
theorem dX6_aimOf_17 : decode cX6_aimOf 17 = .ok (.iload_n 1, 1) := by decide +kernel
theorem dX6_aimOf_18 : decode cX6_aimOf 18 = .ok (.iaload, 1) := by decide +kernel
theorem dX6_aimOf_19 : decode cX6_aimOf 19 = .ok (.aload_n 0, 1) := by decide +kernel
theorem dX6_aimOf_20 : decode cX6_aimOf 20 = .ok (.iload_n 1, 1) := by decide +kernel
theorem dX6_aimOf_21 : decode cX6_aimOf 21 = .ok (.iconst 1, 1) := by decide +kernel
theorem dX6_aimOf_22 : decode cX6_aimOf 22 = .ok (.isub, 1) := by decide +kernel
theorem dX6_aimOf_23 : decode cX6_aimOf 23 = .ok (.iaload, 1) := by decide +kernel
theorem dX6_aimOf_24 : decode cX6_aimOf 24 = .ok (.iadd, 1) := by decide +kernel
theorem dX6_aimOf_25 : decode cX6_aimOf 25 = .ok (.ineg, 1) := by decide +kernel
theorem dX6_aimOf_26 : decode cX6_aimOf 26 = .ok (.i2f, 1) := by decide +kernel
theorem dX6_aimOf_27 : decode cX6_aimOf 27 = .ok (.fconst 2, 1) := by decide +kernel
theorem dX6_aimOf_28 : decode cX6_aimOf 28 = .ok (.fdiv, 1) := by decide +kernel
theorem dX6_aimOf_29 : decode cX6_aimOf 29 = .ok (.freturn, 1) := by decide +kernel
theorem dX7_init_0 : decode cX7_init 0 = .ok (.aload_n 0, 1) := by decide +kernel
theorem dX7_init_1 : decode cX7_init 1 = .ok (.invokespecial 3, 3) := by decide +kernel
theorem dX7_init_4 : decode cX7_init 4 = .ok (.aload_n 0, 1) := by decide +kernel
theorem dX7_init_5 : decode cX7_init 5 = .ok (.bipush 80, 2) := by decide +kernel
theorem dX7_init_7 : decode cX7_init 7 = .ok (.newarray .int, 2) := by decide +kernel
theorem dX7_init_9 : decode cX7_init 9 = .ok (.putfield 9, 3) := by decide +kernel
theorem dX7_init_12 : decode cX7_init 12 = .ok (.aload_n 0, 1) := by decide +kernel
theorem dX7_init_13 : decode cX7_init 13 = .ok (.bipush 80, 2) := by decide +kernel
theorem dX7_init_15 : decode cX7_init 15 = .ok (.newarray .int, 2) := by decide +kernel
theorem dX7_init_17 : decode cX7_init 17 = .ok (.putfield 15, 3) := by decide +kernel
theorem dX7_init_20 : decode cX7_init 20 = .ok (.aload_n 0, 1) := by decide +kernel
theorem dX7_init_21 : decode cX7_init 21 = .ok (.bipush 80, 2) := by decide +kernel
theorem dX7_init_23 : decode cX7_init 23 = .ok (.newarray .int, 2) := by decide +kernel
theorem dX7_init_25 : decode cX7_init 25 = .ok (.putfield 18, 3) := by decide +kernel
theorem dX7_init_28 : decode cX7_init 28 = .ok (.aload_n 0, 1) := by decide +kernel
theorem dX7_init_29 : decode cX7_init 29 = .ok (.bipush 8, 2) := by decide +kernel
theorem dX7_init_31 : decode cX7_init 31 = .ok (.newarray .int, 2) := by decide +kernel
theorem dX7_init_33 : decode cX7_init 33 = .ok (.putfield 21, 3) := by decide +kernel
theorem dX7_init_36 : decode cX7_init 36 = .ok (.aload_n 0, 1) := by decide +kernel
theorem dX7_init_37 : decode cX7_init 37 = .ok (.bipush 8, 2) := by decide +kernel
theorem dX7_init_39 : decode cX7_init 39 = .ok (.newarray .int, 2) := by decide +kernel
theorem dX7_init_41 : decode cX7_init 41 = .ok (.putfield 24, 3) := by decide +kernel
theorem dX7_init_44 : decode cX7_init 44 = .ok (.aload_n 0, 1) := by decide +kernel
theorem dX7_init_45 : decode cX7_init 45 = .ok (.bipush 8, 2) := by decide +kernel
theorem dX7_init_47 : decode cX7_init 47 = .ok (.newarray .int, 2) := by decide +kernel
theorem dX7_init_49 : decode cX7_init 49 = .ok (.putfield 27, 3) := by decide +kernel
theorem dX7_init_52 : decode cX7_init 52 = .ok (.aload_n 0, 1) := by decide +kernel
theorem dX7_init_53 : decode cX7_init 53 = .ok (.bipush 8, 2) := by decide +kernel
theorem dX7_init_55 : decode cX7_init 55 = .ok (.newarray .int, 2) := by decide +kernel
theorem dX7_init_57 : decode cX7_init 57 = .ok (.putfield 30, 3) := by decide +kernel
theorem dX7_init_60 : decode cX7_init 60 = .ok (.aload_n 0, 1) := by decide +kernel
theorem dX7_init_61 : decode cX7_init 61 = .ok (.bipush 8, 2) := by decide +kernel
theorem dX7_init_63 : decode cX7_init 63 = .ok (.newarray .boolean, 2) := by decide +kernel
theorem dX7_init_65 : decode cX7_init 65 = .ok (.putfield 33, 3) := by decide +kernel
theorem dX7_init_68 : decode cX7_init 68 = .ok (.iconst 0, 1) := by decide +kernel
theorem dX7_init_69 : decode cX7_init 69 = .ok (.istore_n 1, 1) := by decide +kernel
theorem dX7_init_70 : decode cX7_init 70 = .ok (.iload_n 1, 1) := by decide +kernel
theorem dX7_init_71 : decode cX7_init 71 = .ok (.bipush 8, 2) := by decide +kernel
theorem dX7_init_73 : decode cX7_init 73 = .ok (.if_icmp .ge 17, 3) := by decide +kernel
theorem dX7_init_76 : decode cX7_init 76 = .ok (.aload_n 0, 1) := by decide +kernel
theorem dX7_init_77 : decode cX7_init 77 = .ok (.getfield 24, 3) := by decide +kernel
theorem dX7_init_80 : decode cX7_init 80 = .ok (.iload_n 1, 1) := by decide +kernel
theorem dX7_init_81 : decode cX7_init 81 = .ok (.bipush 20, 2) := by decide +kernel
theorem dX7_init_83 : decode cX7_init 83 = .ok (.iastore, 1) := by decide +kernel
theorem dX7_init_84 : decode cX7_init 84 = .ok (.iinc 1 1, 3) := by decide +kernel
theorem dX7_init_87 : decode cX7_init 87 = .ok (.goto (-17), 3) := by decide +kernel
theorem dX7_init_90 : decode cX7_init 90 = .ok (.return_, 1) := by decide +kernel
theorem dX7_paint_0 : decode cX7_paint 0 = .ok (.aload_n 0, 1) := by decide +kernel
theorem dX7_paint_1 : decode cX7_paint 1 = .ok (.getfield 9, 3) := by decide +kernel
theorem dX7_paint_4 : decode cX7_paint 4 = .ok (.iload_n 1, 1) := by decide +kernel
theorem dX7_paint_5 : decode cX7_paint 5 = .ok (.iaload, 1) := by decide +kernel
theorem dX7_paint_6 : decode cX7_paint 6 = .ok (.iload_n 2, 1) := by decide +kernel
theorem dX7_paint_7 : decode cX7_paint 7 = .ok (.if_icmp .ne 24, 3) := by decide +kernel
theorem dX7_paint_10 : decode cX7_paint 10 = .ok (.aload_n 0, 1) := by decide +kernel
theorem dX7_paint_11 : decode cX7_paint 11 = .ok (.getfield 15, 3) := by decide +kernel
theorem dX7_paint_14 : decode cX7_paint 14 = .ok (.iload_n 1, 1) := by decide +kernel
theorem dX7_paint_15 : decode cX7_paint 15 = .ok (.iaload, 1) := by decide +kernel
theorem dX7_paint_16 : decode cX7_paint 16 = .ok (.iload_n 3, 1) := by decide +kernel
theorem dX7_paint_17 : decode cX7_paint 17 = .ok (.if_icmp .ne 14, 3) := by decide +kernel
theorem dX7_paint_20 : decode cX7_paint 20 = .ok (.aload_n 0, 1) := by decide +kernel
theorem dX7_paint_21 : decode cX7_paint 21 = .ok (.getfield 18, 3) := by decide +kernel
theorem dX7_paint_24 : decode cX7_paint 24 = .ok (.iload_n 1, 1) := by decide +kernel
theorem dX7_paint_25 : decode cX7_paint 25 = .ok (.iaload, 1) := by decide +kernel
theorem dX7_paint_26 : decode cX7_paint 26 = .ok (.iload 4, 2) := by decide +kernel
theorem dX7_paint_28 : decode cX7_paint 28 = .ok (.if_icmp .eq 7, 3) := by decide +kernel
theorem dX7_paint_31 : decode cX7_paint 31 = .ok (.iconst 1, 1) := by decide +kernel
theorem dX7_paint_32 : decode cX7_paint 32 = .ok (.goto 4, 3) := by decide +kernel
theorem dX7_paint_35 : decode cX7_paint 35 = .ok (.iconst 0, 1) := by decide +kernel
theorem dX7_paint_36 : decode cX7_paint 36 = .ok (.istore 5, 2) := by decide +kernel
theorem dX7_paint_38 : decode cX7_paint 38 = .ok (.aload_n 0, 1) := by decide +kernel
theorem dX7_paint_39 : decode cX7_paint 39 = .ok (.getfield 9, 3) := by decide +kernel
theorem dX7_paint_42 : decode cX7_paint 42 = .ok (.iload_n 1, 1) := by decide +kernel
theorem dX7_paint_43 : decode cX7_paint 43 = .ok (.iload_n 2, 1) := by decide +kernel
theorem dX7_paint_44 : decode cX7_paint 44 = .ok (.iastore, 1) := by decide +kernel
theorem dX7_paint_45 : decode cX7_paint 45 = .ok (.aload_n 0, 1) := by decide +kernel
theorem dX7_paint_46 : decode cX7_paint 46 = .ok (.getfield 15, 3) := by decide +kernel
theorem dX7_paint_49 : decode cX7_paint 49 = .ok (.iload_n 1, 1) := by decide +kernel
theorem dX7_paint_50 : decode cX7_paint 50 = .ok (.iload_n 3, 1) := by decide +kernel
theorem dX7_paint_51 : decode cX7_paint 51 = .ok (.iastore, 1) := by decide +kernel
theorem dX7_paint_52 : decode cX7_paint 52 = .ok (.aload_n 0, 1) := by decide +kernel
theorem dX7_paint_53 : decode cX7_paint 53 = .ok (.getfield 18, 3) := by decide +kernel
theorem dX7_paint_56 : decode cX7_paint 56 = .ok (.iload_n 1, 1) := by decide +kernel
theorem dX7_paint_57 : decode cX7_paint 57 = .ok (.iload 4, 2) := by decide +kernel
theorem dX7_paint_59 : decode cX7_paint 59 = .ok (.iastore, 1) := by decide +kernel
theorem dX7_paint_60 : decode cX7_paint 60 = .ok (.iload 5, 2) := by decide +kernel
theorem dX7_paint_62 : decode cX7_paint 62 = .ok (.ireturn, 1) := by decide +kernel
theorem dX7_sampleAt_0 : decode cX7_sampleAt 0 = .ok (.iload_n 2, 1) := by decide +kernel
theorem dX7_sampleAt_1 : decode cX7_sampleAt 1 = .ok (.bipush 8, 2) := by decide +kernel
theorem dX7_sampleAt_3 : decode cX7_sampleAt 3 = .ok (.isub, 1) := by decide +kernel
theorem dX7_sampleAt_4 : decode cX7_sampleAt 4 = .ok (.aload_n 0, 1) := by decide +kernel
theorem dX7_sampleAt_5 : decode cX7_sampleAt 5 = .ok (.getfield 21, 3) := by decide +kernel
theorem dX7_sampleAt_8 : decode cX7_sampleAt 8 = .ok (.iload_n 1, 1) := by decide +kernel
theorem dX7_sampleAt_9 : decode cX7_sampleAt 9 = .ok (.iaload, 1) := by decide +kernel
theorem dX7_sampleAt_10 : decode cX7_sampleAt 10 = .ok (.isub, 1) := by decide +kernel
theorem dX7_sampleAt_11 : decode cX7_sampleAt 11 = .ok (.istore_n 3, 1) := by decide +kernel
theorem dX7_sampleAt_12 : decode cX7_sampleAt 12 = .ok (.iload_n 1, 1) := by decide +kernel
theorem dX7_sampleAt_13 : decode cX7_sampleAt 13 = .ok (.iload_n 2, 1) := by decide +kernel
theorem dX7_sampleAt_14 : decode cX7_sampleAt 14 = .ok (.aload_n 0, 1) := by decide +kernel
theorem dX7_sampleAt_15 : decode cX7_sampleAt 15 = .ok (.getfield 27, 3) := by decide +kernel
theorem dX7_sampleAt_18 : decode cX7_sampleAt 18 = .ok (.iload_n 1, 1) := by decide +kernel
theorem dX7_sampleAt_19 : decode cX7_sampleAt 19 = .ok (.iaload, 1) := by decide +kernel
theorem dX7_sampleAt_20 : decode cX7_sampleAt 20 = .ok (.iadd, 1) := by decide +kernel
theorem dX7_sampleAt_21 : decode cX7_sampleAt 21 = .ok (.invokestatic 37, 3) := by decide +kernel
theorem dX7_sampleAt_24 : decode cX7_sampleAt 24 = .ok (.istore 4, 2) := by decide +kernel
theorem dX7_sampleAt_26 : decode cX7_sampleAt 26 = .ok (.aload_n 0, 1) := by decide +kernel
theorem dX7_sampleAt_27 : decode cX7_sampleAt 27 = .ok (.iload_n 1, 1) := by decide +kernel
theorem dX7_sampleAt_28 : decode cX7_sampleAt 28 = .ok (.iload_n 2, 1) := by decide +kernel
theorem dX7_sampleAt_29 : decode cX7_sampleAt 29 = .ok (.invokevirtual 41, 3) := by decide +kernel
theorem dX7_sampleAt_32 : decode cX7_sampleAt 32 = .ok (.aload_n 0, 1) := by decide +kernel
theorem dX7_sampleAt_33 : decode cX7_sampleAt 33 = .ok (.iload_n 1, 1) := by decide +kernel
theorem dX7_sampleAt_34 : decode cX7_sampleAt 34 = .ok (.iload_n 3, 1) := by decide +kernel
theorem dX7_sampleAt_35 : decode cX7_sampleAt 35 = .ok (.iload 4, 2) := by decide +kernel
theorem dX7_sampleAt_37 : decode cX7_sampleAt 37 = .ok (.invokevirtual 44, 3) := by decide +kernel
theorem dX7_sampleAt_40 : decode cX7_sampleAt 40 = .ok (.iadd, 1) := by decide +kernel
theorem dX7_sampleAt_41 : decode cX7_sampleAt 41 = .ok (.ireturn, 1) := by decide +kernel
theorem dX7_noiseAt_0 : decode cX7_noiseAt 0 = .ok (.aload_n 0, 1) := by decide +kernel
theorem dX7_noiseAt_1 : decode cX7_noiseAt 1 = .ok (.getfield 30, 3) := by decide +kernel
theorem dX7_noiseAt_4 : decode cX7_noiseAt 4 = .ok (.iload_n 1, 1) := by decide +kernel
theorem dX7_noiseAt_5 : decode cX7_noiseAt 5 = .ok (.iaload, 1) := by decide +kernel
theorem dX7_noiseAt_6 : decode cX7_noiseAt 6 = .ok (.bipush 7, 2) := by decide +kernel
theorem dX7_noiseAt_8 : decode cX7_noiseAt 8 = .ok (.iload_n 2, 1) := by decide +kernel
theorem dX7_noiseAt_9 : decode cX7_noiseAt 9 = .ok (.imul, 1) := by decide +kernel
theorem dX7_noiseAt_10 : decode cX7_noiseAt 10 = .ok (.bipush 13, 2) := by decide +kernel
theorem dX7_noiseAt_12 : decode cX7_noiseAt 12 = .ok (.iload_n 1, 1) := by decide +kernel
end
section
/-! decode rows, part 2 -/
theorem dX7_noiseAt_13 : decode cX7_noiseAt 13 = .ok (.imul, 1) := by decide +kernel
theorem dX7_noiseAt_14 : decode cX7_noiseAt 14 = .ok (.iadd, 1) := by decide +kernel
theorem dX7_noiseAt_15 : decode cX7_noiseAt 15 = .ok (.iconst 5, 1) := by decide +kernel
theorem dX7_noiseAt_16 : decode cX7_noiseAt 16 = .ok (.invokestatic 48, 3) := by decide +kernel
theorem dX7_noiseAt_19 : decode cX7_noiseAt 19 = .ok (.iconst 2, 1) := by decide +kernel
theorem dX7_noiseAt_20 : decode cX7_noiseAt 20 = .ok (.isub, 1) := by decide +kernel
theorem dX7_noiseAt_21 : decode cX7_noiseAt 21 = .ok (.imul, 1) := by decide +kernel
theorem dX7_noiseAt_22 : decode cX7_noiseAt 22 = .ok (.ireturn, 1) := by decide +kernel
theorem dX7_levelAt_0 : decode cX7_levelAt 0 = .ok (.iload_n 2, 1) := by decide +kernel
theorem dX7_levelAt_1 : decode cX7_levelAt 1 = .ok (.ifCond .ge 5, 3) := by decide +kernel
theorem dX7_levelAt_4 : decode cX7_levelAt 4 = .ok (.iconst 0, 1) := by decide +kernel
theorem dX7_levelAt_5 : decode cX7_levelAt 5 = .ok (.ireturn, 1) := by decide +kernel
theorem dX7_levelAt_6 : decode cX7_levelAt 6 = .ok (.iload_n 2, 1) := by decide +kernel
theorem dX7_levelAt_7 : decode cX7_levelAt 7 = .ok (.bipush 8, 2) := by decide +kernel
theorem dX7_levelAt_9 : decode cX7_levelAt 9 = .ok (.if_icmp .ge 19, 3) := by decide +kernel
theorem dX7_levelAt_12 : decode cX7_levelAt 12 = .ok (.aload_n 0, 1) := by decide +kernel
theorem dX7_levelAt_13 : decode cX7_levelAt 13 = .ok (.getfield 33, 3) := by decide +kernel
theorem dX7_levelAt_16 : decode cX7_levelAt 16 = .ok (.iload_n 1, 1) := by decide +kernel
theorem dX7_levelAt_17 : decode cX7_levelAt 17 = .ok (.baload, 1) := by decide +kernel
theorem dX7_levelAt_18 : decode cX7_levelAt 18 = .ok (.ifCond .eq 7, 3) := by decide +kernel
theorem dX7_levelAt_21 : decode cX7_levelAt 21 = .ok (.iconst 0, 1) := by decide +kernel
theorem dX7_levelAt_22 : decode cX7_levelAt 22 = .ok (.goto 5, 3) := by decide +kernel
theorem dX7_levelAt_25 : decode cX7_levelAt 25 = .ok (.bipush (-40), 2) := by decide +kernel
theorem dX7_levelAt_27 : decode cX7_levelAt 27 = .ok (.ireturn, 1) := by decide +kernel
theorem dX7_levelAt_28 : decode cX7_levelAt 28 = .ok (.iload_n 2, 1) := by decide +kernel
theorem dX7_levelAt_29 : decode cX7_levelAt 29 = .ok (.bipush 16, 2) := by decide +kernel
theorem dX7_levelAt_31 : decode cX7_levelAt 31 = .ok (.if_icmp .ge 10, 3) := by decide +kernel
theorem dX7_levelAt_34 : decode cX7_levelAt 34 = .ok (.aload_n 0, 1) := by decide +kernel
theorem dX7_levelAt_35 : decode cX7_levelAt 35 = .ok (.iload_n 1, 1) := by decide +kernel
theorem dX7_levelAt_36 : decode cX7_levelAt 36 = .ok (.iload_n 3, 1) := by decide +kernel
theorem dX7_levelAt_37 : decode cX7_levelAt 37 = .ok (.invokevirtual 53, 3) := by decide +kernel
theorem dX7_levelAt_40 : decode cX7_levelAt 40 = .ok (.ireturn, 1) := by decide +kernel
theorem dX7_levelAt_41 : decode cX7_levelAt 41 = .ok (.iload_n 2, 1) := by decide +kernel
theorem dX7_levelAt_42 : decode cX7_levelAt 42 = .ok (.bipush 16, 2) := by decide +kernel
theorem dX7_levelAt_44 : decode cX7_levelAt 44 = .ok (.isub, 1) := by decide +kernel
theorem dX7_levelAt_45 : decode cX7_levelAt 45 = .ok (.bipush 8, 2) := by decide +kernel
theorem dX7_levelAt_47 : decode cX7_levelAt 47 = .ok (.idiv, 1) := by decide +kernel
theorem dX7_levelAt_48 : decode cX7_levelAt 48 = .ok (.istore 4, 2) := by decide +kernel
theorem dX7_levelAt_50 : decode cX7_levelAt 50 = .ok (.iload 4, 2) := by decide +kernel
theorem dX7_levelAt_52 : decode cX7_levelAt 52 = .ok (.bipush 10, 2) := by decide +kernel
theorem dX7_levelAt_54 : decode cX7_levelAt 54 = .ok (.if_icmp .lt 5, 3) := by decide +kernel
theorem dX7_levelAt_57 : decode cX7_levelAt 57 = .ok (.iconst 0, 1) := by decide +kernel
theorem dX7_levelAt_58 : decode cX7_levelAt 58 = .ok (.ireturn, 1) := by decide +kernel
theorem dX7_levelAt_59 : decode cX7_levelAt 59 = .ok (.iload_n 1, 1) := by decide +kernel
theorem dX7_levelAt_60 : decode cX7_levelAt 60 = .ok (.iload 4, 2) := by decide +kernel
theorem dX7_levelAt_62 : decode cX7_levelAt 62 = .ok (.invokestatic 56, 3) := by decide +kernel
theorem dX7_levelAt_65 : decode cX7_levelAt 65 = .ok (.istore 5, 2) := by decide +kernel
theorem dX7_levelAt_67 : decode cX7_levelAt 67 = .ok (.aload_n 0, 1) := by decide +kernel
theorem dX7_levelAt_68 : decode cX7_levelAt 68 = .ok (.getfield 9, 3) := by decide +kernel
theorem dX7_levelAt_71 : decode cX7_levelAt 71 = .ok (.iload 5, 2) := by decide +kernel
theorem dX7_levelAt_73 : decode cX7_levelAt 73 = .ok (.iaload, 1) := by decide +kernel
theorem dX7_levelAt_74 : decode cX7_levelAt 74 = .ok (.aload_n 0, 1) := by decide +kernel
theorem dX7_levelAt_75 : decode cX7_levelAt 75 = .ok (.getfield 15, 3) := by decide +kernel
theorem dX7_levelAt_78 : decode cX7_levelAt 78 = .ok (.iload 5, 2) := by decide +kernel
theorem dX7_levelAt_80 : decode cX7_levelAt 80 = .ok (.iaload, 1) := by decide +kernel
theorem dX7_levelAt_81 : decode cX7_levelAt 81 = .ok (.getstatic 59, 3) := by decide +kernel
theorem dX7_levelAt_84 : decode cX7_levelAt 84 = .ok (.iload_n 3, 1) := by decide +kernel
theorem dX7_levelAt_85 : decode cX7_levelAt 85 = .ok (.iaload, 1) := by decide +kernel
theorem dX7_levelAt_86 : decode cX7_levelAt 86 = .ok (.imul, 1) := by decide +kernel
theorem dX7_levelAt_87 : decode cX7_levelAt 87 = .ok (.iadd, 1) := by decide +kernel
theorem dX7_levelAt_88 : decode cX7_levelAt 88 = .ok (.aload_n 0, 1) := by decide +kernel
theorem dX7_levelAt_89 : decode cX7_levelAt 89 = .ok (.iload_n 1, 1) := by decide +kernel
theorem dX7_levelAt_90 : decode cX7_levelAt 90 = .ok (.invokevirtual 62, 3) := by decide +kernel
theorem dX7_levelAt_93 : decode cX7_levelAt 93 = .ok (.aload_n 0, 1) := by decide +kernel
theorem dX7_levelAt_94 : decode cX7_levelAt 94 = .ok (.getfield 18, 3) := by decide +kernel
theorem dX7_levelAt_97 : decode cX7_levelAt 97 = .ok (.iload 5, 2) := by decide +kernel
theorem dX7_levelAt_99 : decode cX7_levelAt 99 = .ok (.iaload, 1) := by decide +kernel
theorem dX7_levelAt_100 : decode cX7_levelAt 100 = .ok (.imul, 1) := by decide +kernel
theorem dX7_levelAt_101 : decode cX7_levelAt 101 = .ok (.getstatic 66, 3) := by decide +kernel
theorem dX7_levelAt_104 : decode cX7_levelAt 104 = .ok (.iload_n 3, 1) := by decide +kernel
theorem dX7_levelAt_105 : decode cX7_levelAt 105 = .ok (.iaload, 1) := by decide +kernel
theorem dX7_levelAt_106 : decode cX7_levelAt 106 = .ok (.imul, 1) := by decide +kernel
theorem dX7_levelAt_107 : decode cX7_levelAt 107 = .ok (.iadd, 1) := by decide +kernel
theorem dX7_levelAt_108 : decode cX7_levelAt 108 = .ok (.ireturn, 1) := by decide +kernel
theorem dX7_burstAt_0 : decode cX7_burstAt 0 = .ok (.aload_n 0, 1) := by decide +kernel
theorem dX7_burstAt_1 : decode cX7_burstAt 1 = .ok (.getfield 24, 3) := by decide +kernel
theorem dX7_burstAt_4 : decode cX7_burstAt 4 = .ok (.iload_n 1, 1) := by decide +kernel
theorem dX7_burstAt_5 : decode cX7_burstAt 5 = .ok (.iaload, 1) := by decide +kernel
theorem dX7_burstAt_6 : decode cX7_burstAt 6 = .ok (.ineg, 1) := by decide +kernel
theorem dX7_burstAt_7 : decode cX7_burstAt 7 = .ok (.getstatic 59, 3) := by decide +kernel
theorem dX7_burstAt_10 : decode cX7_burstAt 10 = .ok (.iload_n 2, 1) := by decide +kernel
theorem dX7_burstAt_11 : decode cX7_burstAt 11 = .ok (.iaload, 1) := by decide +kernel
theorem dX7_burstAt_12 : decode cX7_burstAt 12 = .ok (.imul, 1) := by decide +kernel
theorem dX7_burstAt_13 : decode cX7_burstAt 13 = .ok (.istore_n 3, 1) := by decide +kernel
theorem dX7_burstAt_14 : decode cX7_burstAt 14 = .ok (.aload_n 0, 1) := by decide +kernel
theorem dX7_burstAt_15 : decode cX7_burstAt 15 = .ok (.getfield 69, 3) := by decide +kernel
theorem dX7_burstAt_18 : decode cX7_burstAt 18 = .ok (.iconst 1, 1) := by decide +kernel
theorem dX7_burstAt_19 : decode cX7_burstAt 19 = .ok (.if_icmp .ne 24, 3) := by decide +kernel
theorem dX7_burstAt_22 : decode cX7_burstAt 22 = .ok (.iload_n 3, 1) := by decide +kernel
theorem dX7_burstAt_23 : decode cX7_burstAt 23 = .ok (.aload_n 0, 1) := by decide +kernel
theorem dX7_burstAt_24 : decode cX7_burstAt 24 = .ok (.iload_n 1, 1) := by decide +kernel
theorem dX7_burstAt_25 : decode cX7_burstAt 25 = .ok (.invokevirtual 62, 3) := by decide +kernel
theorem dX7_burstAt_28 : decode cX7_burstAt 28 = .ok (.aload_n 0, 1) := by decide +kernel
theorem dX7_burstAt_29 : decode cX7_burstAt 29 = .ok (.getfield 24, 3) := by decide +kernel
theorem dX7_burstAt_32 : decode cX7_burstAt 32 = .ok (.iload_n 1, 1) := by decide +kernel
theorem dX7_burstAt_33 : decode cX7_burstAt 33 = .ok (.iaload, 1) := by decide +kernel
theorem dX7_burstAt_34 : decode cX7_burstAt 34 = .ok (.imul, 1) := by decide +kernel
theorem dX7_burstAt_35 : decode cX7_burstAt 35 = .ok (.getstatic 66, 3) := by decide +kernel
theorem dX7_burstAt_38 : decode cX7_burstAt 38 = .ok (.iload_n 2, 1) := by decide +kernel
theorem dX7_burstAt_39 : decode cX7_burstAt 39 = .ok (.iaload, 1) := by decide +kernel
theorem dX7_burstAt_40 : decode cX7_burstAt 40 = .ok (.imul, 1) := by decide +kernel
theorem dX7_burstAt_41 : decode cX7_burstAt 41 = .ok (.iadd, 1) := by decide +kernel
theorem dX7_burstAt_42 : decode cX7_burstAt 42 = .ok (.istore_n 3, 1) := by decide +kernel
theorem dX7_burstAt_43 : decode cX7_burstAt 43 = .ok (.iload_n 3, 1) := by decide +kernel
theorem dX7_burstAt_44 : decode cX7_burstAt 44 = .ok (.ireturn, 1) := by decide +kernel
theorem dX7_signOf_0 : decode cX7_signOf 0 = .ok (.aload_n 0, 1) := by decide +kernel
theorem dX7_signOf_1 : decode cX7_signOf 1 = .ok (.getfield 69, 3) := by decide +kernel
theorem dX7_signOf_4 : decode cX7_signOf 4 = .ok (.iconst 1, 1) := by decide +kernel
theorem dX7_signOf_5 : decode cX7_signOf 5 = .ok (.if_icmp .ne 14, 3) := by decide +kernel
theorem dX7_signOf_8 : decode cX7_signOf 8 = .ok (.iload_n 1, 1) := by decide +kernel
theorem dX7_signOf_9 : decode cX7_signOf 9 = .ok (.iconst 1, 1) := by decide +kernel
theorem dX7_signOf_10 : decode cX7_signOf 10 = .ok (.iand, 1) := by decide +kernel
theorem dX7_signOf_11 : decode cX7_signOf 11 = .ok (.iconst 1, 1) := by decide +kernel
theorem dX7_signOf_12 : decode cX7_signOf 12 = .ok (.if_icmp .ne 7, 3) := by decide +kernel
theorem dX7_signOf_15 : decode cX7_signOf 15 = .ok (.iconst (-1), 1) := by decide +kernel
theorem dX7_signOf_16 : decode cX7_signOf 16 = .ok (.goto 4, 3) := by decide +kernel
theorem dX7_signOf_19 : decode cX7_signOf 19 = .ok (.iconst 1, 1) := by decide +kernel
theorem dX7_signOf_20 : decode cX7_signOf 20 = .ok (.ireturn, 1) := by decide +kernel
theorem dX8_init_0 : decode cX8_init 0 = .ok (.aload_n 0, 1) := by decide +kernel
theorem dX8_init_1 : decode cX8_init 1 = .ok (.invokespecial 1, 3) := by decide +kernel
theorem dX8_init_4 : decode cX8_init 4 = .ok (.aload_n 0, 1) := by decide +kernel
theorem dX8_init_5 : decode cX8_init 5 = .ok (.iconst 4, 1) := by decide +kernel
theorem dX8_init_6 : decode cX8_init 6 = .ok (.newarray .int, 2) := by decide +kernel
theorem dX8_init_8 : decode cX8_init 8 = .ok (.dup, 1) := by decide +kernel
theorem dX8_init_9 : decode cX8_init 9 = .ok (.iconst 0, 1) := by decide +kernel
theorem dX8_init_10 : decode cX8_init 10 = .ok (.bipush 8, 2) := by decide +kernel
theorem dX8_init_12 : decode cX8_init 12 = .ok (.iastore, 1) := by decide +kernel
theorem dX8_init_13 : decode cX8_init 13 = .ok (.dup, 1) := by decide +kernel
theorem dX8_init_14 : decode cX8_init 14 = .ok (.iconst 1, 1) := by decide +kernel
theorem dX8_init_15 : decode cX8_init 15 = .ok (.bipush 10, 2) := by decide +kernel
theorem dX8_init_17 : decode cX8_init 17 = .ok (.iastore, 1) := by decide +kernel
theorem dX8_init_18 : decode cX8_init 18 = .ok (.dup, 1) := by decide +kernel
theorem dX8_init_19 : decode cX8_init 19 = .ok (.iconst 2, 1) := by decide +kernel
theorem dX8_init_20 : decode cX8_init 20 = .ok (.iconst 3, 1) := by decide +kernel
theorem dX8_init_21 : decode cX8_init 21 = .ok (.iastore, 1) := by decide +kernel
theorem dX8_init_22 : decode cX8_init 22 = .ok (.dup, 1) := by decide +kernel
theorem dX8_init_23 : decode cX8_init 23 = .ok (.iconst 3, 1) := by decide +kernel
theorem dX8_init_24 : decode cX8_init 24 = .ok (.iconst 2, 1) := by decide +kernel
theorem dX8_init_25 : decode cX8_init 25 = .ok (.iastore, 1) := by decide +kernel
theorem dX8_init_26 : decode cX8_init 26 = .ok (.putfield 9, 3) := by decide +kernel
theorem dX8_init_29 : decode cX8_init 29 = .ok (.return_, 1) := by decide +kernel
theorem dX8_allows_0 : decode cX8_allows 0 = .ok (.iload_n 2, 1) := by decide +kernel
theorem dX8_allows_1 : decode cX8_allows 1 = .ok (.getstatic 13, 3) := by decide +kernel
theorem dX8_allows_4 : decode cX8_allows 4 = .ok (.iload_n 1, 1) := by decide +kernel
theorem dX8_allows_5 : decode cX8_allows 5 = .ok (.iaload, 1) := by decide +kernel
theorem dX8_allows_6 : decode cX8_allows 6 = .ok (.getstatic 16, 3) := by decide +kernel
theorem dX8_allows_9 : decode cX8_allows 9 = .ok (.iload_n 1, 1) := by decide +kernel
theorem dX8_allows_10 : decode cX8_allows 10 = .ok (.iaload, 1) := by decide +kernel
theorem dX8_allows_11 : decode cX8_allows 11 = .ok (.invokestatic 19, 3) := by decide +kernel
theorem dX8_allows_14 : decode cX8_allows 14 = .ok (.ireturn, 1) := by decide +kernel
theorem dX8_threshold_0 : decode cX8_threshold 0 = .ok (.aload_n 0, 1) := by decide +kernel
theorem dX8_threshold_1 : decode cX8_threshold 1 = .ok (.getfield 9, 3) := by decide +kernel
theorem dX8_threshold_4 : decode cX8_threshold 4 = .ok (.iconst 0, 1) := by decide +kernel
theorem dX8_threshold_5 : decode cX8_threshold 5 = .ok (.iaload, 1) := by decide +kernel
theorem dX8_threshold_6 : decode cX8_threshold 6 = .ok (.ireturn, 1) := by decide +kernel
theorem dX8_limit_0 : decode cX8_limit 0 = .ok (.aload_n 0, 1) := by decide +kernel
theorem dX8_limit_1 : decode cX8_limit 1 = .ok (.getfield 9, 3) := by decide +kernel
theorem dX8_limit_4 : decode cX8_limit 4 = .ok (.iconst 1, 1) := by decide +kernel
theorem dX8_limit_5 : decode cX8_limit 5 = .ok (.iaload, 1) := by decide +kernel
theorem dX8_limit_6 : decode cX8_limit 6 = .ok (.ireturn, 1) := by decide +kernel
theorem dX8_comb_0 : decode cX8_comb 0 = .ok (.aload_n 0, 1) := by decide +kernel
theorem dX8_comb_1 : decode cX8_comb 1 = .ok (.getfield 9, 3) := by decide +kernel
theorem dX8_comb_4 : decode cX8_comb 4 = .ok (.iconst 2, 1) := by decide +kernel
theorem dX8_comb_5 : decode cX8_comb 5 = .ok (.iaload, 1) := by decide +kernel
theorem dX8_comb_6 : decode cX8_comb 6 = .ok (.ireturn, 1) := by decide +kernel
theorem dX8_standardTaken_0 : decode cX8_standardTaken 0 = .ok (.aload_n 0, 1) := by decide +kernel
theorem dX8_standardTaken_1 : decode cX8_standardTaken 1 = .ok (.getfield 9, 3) := by decide +kernel
theorem dX8_standardTaken_4 : decode cX8_standardTaken 4 = .ok (.iconst 3, 1) := by decide +kernel
theorem dX8_standardTaken_5 : decode cX8_standardTaken 5 = .ok (.iaload, 1) := by decide +kernel
theorem dX8_standardTaken_6 : decode cX8_standardTaken 6 = .ok (.iconst 2, 1) := by decide +kernel
theorem dX8_standardTaken_7 : decode cX8_standardTaken 7 = .ok (.if_icmp .ne 7, 3) := by decide +kernel
theorem dX8_standardTaken_10 : decode cX8_standardTaken 10 = .ok (.iload_n 1, 1) := by decide +kernel
theorem dX8_standardTaken_11 : decode cX8_standardTaken 11 = .ok (.goto 9, 3) := by decide +kernel
theorem dX8_standardTaken_14 : decode cX8_standardTaken 14 = .ok (.aload_n 0, 1) := by decide +kernel
theorem dX8_standardTaken_15 : decode cX8_standardTaken 15 = .ok (.getfield 9, 3) := by decide +kernel
theorem dX8_standardTaken_18 : decode cX8_standardTaken 18 = .ok (.iconst 3, 1) := by decide +kernel
theorem dX8_standardTaken_19 : decode cX8_standardTaken 19 = .ok (.iaload, 1) := by decide +kernel
theorem dX8_standardTaken_20 : decode cX8_standardTaken 20 = .ok (.ireturn, 1) := by decide +kernel
theorem dX9_init_0 : decode cX9_init 0 = .ok (.aload_n 0, 1) := by decide +kernel
theorem dX9_init_1 : decode cX9_init 1 = .ok (.invokespecial 3, 3) := by decide +kernel
theorem dX9_init_4 : decode cX9_init 4 = .ok (.aload_n 0, 1) := by decide +kernel
theorem dX9_init_5 : decode cX9_init 5 = .ok (.bipush 8, 2) := by decide +kernel
theorem dX9_init_7 : decode cX9_init 7 = .ok (.bipush 112, 2) := by decide +kernel
theorem dX9_init_9 : decode cX9_init 9 = .ok (.multianewarray 9 2, 4) := by decide +kernel
theorem dX9_init_13 : decode cX9_init 13 = .ok (.putfield 11, 3) := by decide +kernel
theorem dX9_init_16 : decode cX9_init 16 = .ok (.return_, 1) := by decide +kernel
theorem dX9_sendFrom_0 : decode cX9_sendFrom 0 = .ok (.iconst 0, 1) := by decide +kernel
theorem dX9_sendFrom_1 : decode cX9_sendFrom 1 = .ok (.istore_n 2, 1) := by decide +kernel
theorem dX9_sendFrom_2 : decode cX9_sendFrom 2 = .ok (.iload_n 2, 1) := by decide +kernel
theorem dX9_sendFrom_3 : decode cX9_sendFrom 3 = .ok (.bipush 8, 2) := by decide +kernel
theorem dX9_sendFrom_5 : decode cX9_sendFrom 5 = .ok (.if_icmp .ge 43, 3) := by decide +kernel
theorem dX9_sendFrom_8 : decode cX9_sendFrom 8 = .ok (.aload_n 0, 1) := by decide +kernel
theorem dX9_sendFrom_9 : decode cX9_sendFrom 9 = .ok (.getfield 11, 3) := by decide +kernel
theorem dX9_sendFrom_12 : decode cX9_sendFrom 12 = .ok (.iload_n 2, 1) := by decide +kernel
theorem dX9_sendFrom_13 : decode cX9_sendFrom 13 = .ok (.aaload, 1) := by decide +kernel
theorem dX9_sendFrom_14 : decode cX9_sendFrom 14 = .ok (.astore_n 3, 1) := by decide +kernel
theorem dX9_sendFrom_15 : decode cX9_sendFrom 15 = .ok (.iconst 0, 1) := by decide +kernel
theorem dX9_sendFrom_16 : decode cX9_sendFrom 16 = .ok (.istore 4, 2) := by decide +kernel
theorem dX9_sendFrom_18 : decode cX9_sendFrom 18 = .ok (.iload 4, 2) := by decide +kernel
theorem dX9_sendFrom_20 : decode cX9_sendFrom 20 = .ok (.bipush 112, 2) := by decide +kernel
theorem dX9_sendFrom_22 : decode cX9_sendFrom 22 = .ok (.if_icmp .ge 20, 3) := by decide +kernel
theorem dX9_sendFrom_25 : decode cX9_sendFrom 25 = .ok (.aload_n 3, 1) := by decide +kernel
theorem dX9_sendFrom_26 : decode cX9_sendFrom 26 = .ok (.iload 4, 2) := by decide +kernel
theorem dX9_sendFrom_28 : decode cX9_sendFrom 28 = .ok (.aload_n 1, 1) := by decide +kernel
theorem dX9_sendFrom_29 : decode cX9_sendFrom 29 = .ok (.iload_n 2, 1) := by decide +kernel
theorem dX9_sendFrom_30 : decode cX9_sendFrom 30 = .ok (.iload 4, 2) := by decide +kernel
theorem dX9_sendFrom_32 : decode cX9_sendFrom 32 = .ok (.invokevirtual 16, 3) := by decide +kernel
theorem dX9_sendFrom_35 : decode cX9_sendFrom 35 = .ok (.iastore, 1) := by decide +kernel
theorem dX9_sendFrom_36 : decode cX9_sendFrom 36 = .ok (.iinc 4 1, 3) := by decide +kernel
theorem dX9_sendFrom_39 : decode cX9_sendFrom 39 = .ok (.goto (-21), 3) := by decide +kernel
theorem dX9_sendFrom_42 : decode cX9_sendFrom 42 = .ok (.iinc 2 1, 3) := by decide +kernel
theorem dX9_sendFrom_45 : decode cX9_sendFrom 45 = .ok (.goto (-43), 3) := by decide +kernel
theorem dX9_sendFrom_48 : decode cX9_sendFrom 48 = .ok (.return_, 1) := by decide +kernel
theorem dX9_at_0 : decode cX9_at 0 = .ok (.iload_n 1, 1) := by decide +kernel
theorem dX9_at_1 : decode cX9_at 1 = .ok (.ifCond .lt 19, 3) := by decide +kernel
theorem dX9_at_4 : decode cX9_at 4 = .ok (.iload_n 1, 1) := by decide +kernel
theorem dX9_at_5 : decode cX9_at 5 = .ok (.bipush 8, 2) := by decide +kernel
theorem dX9_at_7 : decode cX9_at 7 = .ok (.if_icmp .ge 13, 3) := by decide +kernel
theorem dX9_at_10 : decode cX9_at 10 = .ok (.iload_n 2, 1) := by decide +kernel
theorem dX9_at_11 : decode cX9_at 11 = .ok (.ifCond .lt 9, 3) := by decide +kernel
theorem dX9_at_14 : decode cX9_at 14 = .ok (.iload_n 2, 1) := by decide +kernel
theorem dX9_at_15 : decode cX9_at 15 = .ok (.bipush 112, 2) := by decide +kernel
theorem dX9_at_17 : decode cX9_at 17 = .ok (.if_icmp .lt 7, 3) := by decide +kernel
theorem dX9_at_20 : decode cX9_at 20 = .ok (.iconst 0, 1) := by decide +kernel
theorem dX9_at_21 : decode cX9_at 21 = .ok (.goto 11, 3) := by decide +kernel
theorem dX9_at_24 : decode cX9_at 24 = .ok (.aload_n 0, 1) := by decide +kernel
theorem dX9_at_25 : decode cX9_at 25 = .ok (.getfield 11, 3) := by decide +kernel
theorem dX9_at_28 : decode cX9_at 28 = .ok (.iload_n 1, 1) := by decide +kernel
theorem dX9_at_29 : decode cX9_at 29 = .ok (.aaload, 1) := by decide +kernel
theorem dX9_at_30 : decode cX9_at 30 = .ok (.iload_n 2, 1) := by decide +kernel
theorem dX9_at_31 : decode cX9_at 31 = .ok (.iaload, 1) := by decide +kernel
theorem dX9_at_32 : decode cX9_at 32 = .ok (.ireturn, 1) := by decide +kernel
theorem dX9_sumFrom_0 : decode cX9_sumFrom 0 = .ok (.iconst 0, 1) := by decide +kernel
theorem dX9_sumFrom_1 : decode cX9_sumFrom 1 = .ok (.istore_n 3, 1) := by decide +kernel
theorem dX9_sumFrom_2 : decode cX9_sumFrom 2 = .ok (.iconst 0, 1) := by decide +kernel
theorem dX9_sumFrom_3 : decode cX9_sumFrom 3 = .ok (.istore 4, 2) := by decide +kernel
theorem dX9_sumFrom_5 : decode cX9_sumFrom 5 = .ok (.iload 4, 2) := by decide +kernel
theorem dX9_sumFrom_7 : decode cX9_sumFrom 7 = .ok (.bipush 8, 2) := by decide +kernel
theorem dX9_sumFrom_9 : decode cX9_sumFrom 9 = .ok (.if_icmp .ge 21, 3) := by decide +kernel
theorem dX9_sumFrom_12 : decode cX9_sumFrom 12 = .ok (.iload_n 3, 1) := by decide +kernel
theorem dX9_sumFrom_13 : decode cX9_sumFrom 13 = .ok (.aload_n 0, 1) := by decide +kernel
theorem dX9_sumFrom_14 : decode cX9_sumFrom 14 = .ok (.iload_n 1, 1) := by decide +kernel
theorem dX9_sumFrom_15 : decode cX9_sumFrom 15 = .ok (.iload_n 2, 1) := by decide +kernel
theorem dX9_sumFrom_16 : decode cX9_sumFrom 16 = .ok (.iload 4, 2) := by decide +kernel
theorem dX9_sumFrom_18 : decode cX9_sumFrom 18 = .ok (.iadd, 1) := by decide +kernel
theorem dX9_sumFrom_19 : decode cX9_sumFrom 19 = .ok (.invokevirtual 22, 3) := by decide +kernel
theorem dX9_sumFrom_22 : decode cX9_sumFrom 22 = .ok (.iadd, 1) := by decide +kernel
theorem dX9_sumFrom_23 : decode cX9_sumFrom 23 = .ok (.istore_n 3, 1) := by decide +kernel
theorem dX9_sumFrom_24 : decode cX9_sumFrom 24 = .ok (.iinc 4 1, 3) := by decide +kernel
theorem dX9_sumFrom_27 : decode cX9_sumFrom 27 = .ok (.goto (-22), 3) := by decide +kernel
theorem dX9_sumFrom_30 : decode cX9_sumFrom 30 = .ok (.iload_n 3, 1) := by decide +kernel
theorem dX9_sumFrom_31 : decode cX9_sumFrom 31 = .ok (.ireturn, 1) := by decide +kernel
theorem dX9_pulseOf_0 : decode cX9_pulseOf 0 = .ok (.iconst 0, 1) := by decide +kernel
theorem dX9_pulseOf_1 : decode cX9_pulseOf 1 = .ok (.istore_n 2, 1) := by decide +kernel
theorem dX9_pulseOf_2 : decode cX9_pulseOf 2 = .ok (.iconst 0, 1) := by decide +kernel
theorem dX9_pulseOf_3 : decode cX9_pulseOf 3 = .ok (.istore_n 3, 1) := by decide +kernel
theorem dX9_pulseOf_4 : decode cX9_pulseOf 4 = .ok (.iload_n 3, 1) := by decide +kernel
theorem dX9_pulseOf_5 : decode cX9_pulseOf 5 = .ok (.bipush 24, 2) := by decide +kernel
theorem dX9_pulseOf_7 : decode cX9_pulseOf 7 = .ok (.if_icmp .ge 39, 3) := by decide +kernel
theorem dX9_pulseOf_10 : decode cX9_pulseOf 10 = .ok (.aload_n 0, 1) := by decide +kernel
theorem dX9_pulseOf_11 : decode cX9_pulseOf 11 = .ok (.iload_n 1, 1) := by decide +kernel
theorem dX9_pulseOf_12 : decode cX9_pulseOf 12 = .ok (.iload_n 3, 1) := by decide +kernel
theorem dX9_pulseOf_13 : decode cX9_pulseOf 13 = .ok (.invokevirtual 22, 3) := by decide +kernel
theorem dX9_pulseOf_16 : decode cX9_pulseOf 16 = .ok (.bipush (-20), 2) := by decide +kernel
theorem dX9_pulseOf_18 : decode cX9_pulseOf 18 = .ok (.if_icmp .gt 9, 3) := by decide +kernel
theorem dX9_pulseOf_21 : decode cX9_pulseOf 21 = .ok (.iload_n 2, 1) := by decide +kernel
theorem dX9_pulseOf_22 : decode cX9_pulseOf 22 = .ok (.iconst 1, 1) := by decide +kernel
theorem dX9_pulseOf_23 : decode cX9_pulseOf 23 = .ok (.iadd, 1) := by decide +kernel
theorem dX9_pulseOf_24 : decode cX9_pulseOf 24 = .ok (.goto 4, 3) := by decide +kernel
theorem dX9_pulseOf_27 : decode cX9_pulseOf 27 = .ok (.iconst 0, 1) := by decide +kernel
theorem dX9_pulseOf_28 : decode cX9_pulseOf 28 = .ok (.istore_n 2, 1) := by decide +kernel
theorem dX9_pulseOf_29 : decode cX9_pulseOf 29 = .ok (.iload_n 2, 1) := by decide +kernel
theorem dX9_pulseOf_30 : decode cX9_pulseOf 30 = .ok (.iconst 4, 1) := by decide +kernel
theorem dX9_pulseOf_31 : decode cX9_pulseOf 31 = .ok (.if_icmp .ne 9, 3) := by decide +kernel
theorem dX9_pulseOf_34 : decode cX9_pulseOf 34 = .ok (.iload_n 3, 1) := by decide +kernel
theorem dX9_pulseOf_35 : decode cX9_pulseOf 35 = .ok (.iconst 4, 1) := by decide +kernel
theorem dX9_pulseOf_36 : decode cX9_pulseOf 36 = .ok (.isub, 1) := by decide +kernel
theorem dX9_pulseOf_37 : decode cX9_pulseOf 37 = .ok (.iconst 1, 1) := by decide +kernel
theorem dX9_pulseOf_38 : decode cX9_pulseOf 38 = .ok (.iadd, 1) := by decide +kernel
theorem dX9_pulseOf_39 : decode cX9_pulseOf 39 = .ok (.ireturn, 1) := by decide +kernel
theorem dX9_pulseOf_40 : decode cX9_pulseOf 40 = .ok (.iinc 3 1, 3) := by decide +kernel
theorem dX9_pulseOf_43 : decode cX9_pulseOf 43 = .ok (.goto (-39), 3) := by decide +kernel
theorem dX9_pulseOf_46 : decode cX9_pulseOf 46 = .ok (.iconst (-1), 1) := by decide +kernel
theorem dX9_pulseOf_47 : decode cX9_pulseOf 47 = .ok (.ireturn, 1) := by decide +kernel
theorem dX10_init_0 : decode cX10_init 0 = .ok (.aload_n 0, 1) := by decide +kernel
theorem dX10_init_1 : decode cX10_init 1 = .ok (.invokespecial 1, 3) := by decide +kernel
theorem dX10_init_4 : decode cX10_init 4 = .ok (.aload_n 0, 1) := by decide +kernel
theorem dX10_init_5 : decode cX10_init 5 = .ok (.new 7, 3) := by decide +kernel
theorem dX10_init_8 : decode cX10_init 8 = .ok (.dup, 1) := by decide +kernel
theorem dX10_init_9 : decode cX10_init 9 = .ok (.invokespecial 9, 3) := by decide +kernel
theorem dX10_init_12 : decode cX10_init 12 = .ok (.putfield 10, 3) := by decide +kernel
theorem dX10_init_15 : decode cX10_init 15 = .ok (.aload_n 0, 1) := by decide +kernel
theorem dX10_init_16 : decode cX10_init 16 = .ok (.new 16, 3) := by decide +kernel
theorem dX10_init_19 : decode cX10_init 19 = .ok (.dup, 1) := by decide +kernel
theorem dX10_init_20 : decode cX10_init 20 = .ok (.invokespecial 18, 3) := by decide +kernel
theorem dX10_init_23 : decode cX10_init 23 = .ok (.putfield 19, 3) := by decide +kernel
theorem dX10_init_26 : decode cX10_init 26 = .ok (.aload_n 0, 1) := by decide +kernel
theorem dX10_init_27 : decode cX10_init 27 = .ok (.new 23, 3) := by decide +kernel
theorem dX10_init_30 : decode cX10_init 30 = .ok (.dup, 1) := by decide +kernel
theorem dX10_init_31 : decode cX10_init 31 = .ok (.invokespecial 25, 3) := by decide +kernel
theorem dX10_init_34 : decode cX10_init 34 = .ok (.putfield 26, 3) := by decide +kernel
theorem dX10_init_37 : decode cX10_init 37 = .ok (.aload_n 0, 1) := by decide +kernel
theorem dX10_init_38 : decode cX10_init 38 = .ok (.new 30, 3) := by decide +kernel
theorem dX10_init_41 : decode cX10_init 41 = .ok (.dup, 1) := by decide +kernel
theorem dX10_init_42 : decode cX10_init 42 = .ok (.invokespecial 32, 3) := by decide +kernel
theorem dX10_init_45 : decode cX10_init 45 = .ok (.putfield 33, 3) := by decide +kernel
theorem dX10_init_48 : decode cX10_init 48 = .ok (.aload_n 0, 1) := by decide +kernel
theorem dX10_init_49 : decode cX10_init 49 = .ok (.new 37, 3) := by decide +kernel
theorem dX10_init_52 : decode cX10_init 52 = .ok (.dup, 1) := by decide +kernel
theorem dX10_init_53 : decode cX10_init 53 = .ok (.invokespecial 39, 3) := by decide +kernel
theorem dX10_init_56 : decode cX10_init 56 = .ok (.putfield 40, 3) := by decide +kernel
theorem dX10_init_59 : decode cX10_init 59 = .ok (.aload_n 0, 1) := by decide +kernel
theorem dX10_init_60 : decode cX10_init 60 = .ok (.new 44, 3) := by decide +kernel
theorem dX10_init_63 : decode cX10_init 63 = .ok (.dup, 1) := by decide +kernel
theorem dX10_init_64 : decode cX10_init 64 = .ok (.invokespecial 46, 3) := by decide +kernel
theorem dX10_init_67 : decode cX10_init 67 = .ok (.putfield 47, 3) := by decide +kernel
theorem dX10_init_70 : decode cX10_init 70 = .ok (.aload_n 0, 1) := by decide +kernel
theorem dX10_init_71 : decode cX10_init 71 = .ok (.new 51, 3) := by decide +kernel
theorem dX10_init_74 : decode cX10_init 74 = .ok (.dup, 1) := by decide +kernel
theorem dX10_init_75 : decode cX10_init 75 = .ok (.invokespecial 53, 3) := by decide +kernel
theorem dX10_init_78 : decode cX10_init 78 = .ok (.putfield 54, 3) := by decide +kernel
theorem dX10_init_81 : decode cX10_init 81 = .ok (.aload_n 0, 1) := by decide +kernel
theorem dX10_init_82 : decode cX10_init 82 = .ok (.new 58, 3) := by decide +kernel
theorem dX10_init_85 : decode cX10_init 85 = .ok (.dup, 1) := by decide +kernel
theorem dX10_init_86 : decode cX10_init 86 = .ok (.invokespecial 60, 3) := by decide +kernel
theorem dX10_init_89 : decode cX10_init 89 = .ok (.putfield 61, 3) := by decide +kernel
theorem dX10_init_92 : decode cX10_init 92 = .ok (.aload_n 0, 1) := by decide +kernel
theorem dX10_init_93 : decode cX10_init 93 = .ok (.new 65, 3) := by decide +kernel
theorem dX10_init_96 : decode cX10_init 96 = .ok (.dup, 1) := by decide +kernel
theorem dX10_init_97 : decode cX10_init 97 = .ok (.invokespecial 67, 3) := by decide +kernel
theorem dX10_init_100 : decode cX10_init 100 = .ok (.putfield 68, 3) := by decide +kernel
theorem dX10_init_103 : decode cX10_init 103 = .ok (.aload_n 0, 1) := by decide +kernel
theorem dX10_init_104 : decode cX10_init 104 = .ok (.new 72, 3) := by decide +kernel
theorem dX10_init_107 : decode cX10_init 107 = .ok (.dup, 1) := by decide +kernel
theorem dX10_init_108 : decode cX10_init 108 = .ok (.invokespecial 74, 3) := by decide +kernel
theorem dX10_init_111 : decode cX10_init 111 = .ok (.putfield 75, 3) := by decide +kernel
theorem dX10_init_114 : decode cX10_init 114 = .ok (.return_, 1) := by decide +kernel
theorem dX10_setSegment_0 : decode cX10_setSegment 0 = .ok (.iload_n 1, 1) := by decide +kernel
theorem dX10_setSegment_1 : decode cX10_setSegment 1 = .ok (.iload_n 2, 1) := by decide +kernel
theorem dX10_setSegment_2 : decode cX10_setSegment 2 = .ok (.invokestatic 79, 3) := by decide +kernel
theorem dX10_setSegment_5 : decode cX10_setSegment 5 = .ok (.ifCond .ne 6, 3) := by decide +kernel
theorem dX10_setSegment_8 : decode cX10_setSegment 8 = .ok (.ldc 83, 2) := by decide +kernel
theorem dX10_setSegment_10 : decode cX10_setSegment 10 = .ok (.ireturn, 1) := by decide +kernel
theorem dX10_setSegment_11 : decode cX10_setSegment 11 = .ok (.iload_n 3, 1) := by decide +kernel
theorem dX10_setSegment_12 : decode cX10_setSegment 12 = .ok (.iload 4, 2) := by decide +kernel
theorem dX10_setSegment_14 : decode cX10_setSegment 14 = .ok (.iload 5, 2) := by decide +kernel
theorem dX10_setSegment_16 : decode cX10_setSegment 16 = .ok (.invokestatic 84, 3) := by decide +kernel
theorem dX10_setSegment_19 : decode cX10_setSegment 19 = .ok (.ifCond .ne 6, 3) := by decide +kernel
theorem dX10_setSegment_22 : decode cX10_setSegment 22 = .ok (.ldc 88, 2) := by decide +kernel
theorem dX10_setSegment_24 : decode cX10_setSegment 24 = .ok (.ireturn, 1) := by decide +kernel
theorem dX10_setSegment_25 : decode cX10_setSegment 25 = .ok (.iload_n 1, 1) := by decide +kernel
theorem dX10_setSegment_26 : decode cX10_setSegment 26 = .ok (.iload_n 2, 1) := by decide +kernel
theorem dX10_setSegment_27 : decode cX10_setSegment 27 = .ok (.invokestatic 89, 3) := by decide +kernel
theorem dX10_setSegment_30 : decode cX10_setSegment 30 = .ok (.istore 6, 2) := by decide +kernel
theorem dX10_setSegment_32 : decode cX10_setSegment 32 = .ok (.aload_n 0, 1) := by decide +kernel
theorem dX10_setSegment_33 : decode cX10_setSegment 33 = .ok (.getfield 10, 3) := by decide +kernel
theorem dX10_setSegment_36 : decode cX10_setSegment 36 = .ok (.getfield 93, 3) := by decide +kernel
theorem dX10_setSegment_39 : decode cX10_setSegment 39 = .ok (.iload 6, 2) := by decide +kernel
theorem dX10_setSegment_41 : decode cX10_setSegment 41 = .ok (.iaload, 1) := by decide +kernel
theorem dX10_setSegment_42 : decode cX10_setSegment 42 = .ok (.istore 7, 2) := by decide +kernel
theorem dX10_setSegment_44 : decode cX10_setSegment 44 = .ok (.aload_n 0, 1) := by decide +kernel
theorem dX10_setSegment_45 : decode cX10_setSegment 45 = .ok (.getfield 10, 3) := by decide +kernel
theorem dX10_setSegment_48 : decode cX10_setSegment 48 = .ok (.iload 6, 2) := by decide +kernel
theorem dX10_setSegment_50 : decode cX10_setSegment 50 = .ok (.iload_n 3, 1) := by decide +kernel
theorem dX10_setSegment_51 : decode cX10_setSegment 51 = .ok (.iload 4, 2) := by decide +kernel
theorem dX10_setSegment_53 : decode cX10_setSegment 53 = .ok (.iload 5, 2) := by decide +kernel
theorem dX10_setSegment_55 : decode cX10_setSegment 55 = .ok (.invokevirtual 97, 3) := by decide +kernel
theorem dX10_setSegment_58 : decode cX10_setSegment 58 = .ok (.pop, 1) := by decide +kernel
theorem dX10_setSegment_59 : decode cX10_setSegment 59 = .ok (.iload 7, 2) := by decide +kernel
theorem dX10_setSegment_61 : decode cX10_setSegment 61 = .ok (.ireturn, 1) := by decide +kernel
theorem dX10_fill_0 : decode cX10_fill 0 = .ok (.iload_n 1, 1) := by decide +kernel
theorem dX10_fill_1 : decode cX10_fill 1 = .ok (.invokestatic 101, 3) := by decide +kernel
theorem dX10_fill_4 : decode cX10_fill 4 = .ok (.ifCond .ne 6, 3) := by decide +kernel
theorem dX10_fill_7 : decode cX10_fill 7 = .ok (.ldc 83, 2) := by decide +kernel
theorem dX10_fill_9 : decode cX10_fill 9 = .ok (.ireturn, 1) := by decide +kernel
theorem dX10_fill_10 : decode cX10_fill 10 = .ok (.iload_n 2, 1) := by decide +kernel
theorem dX10_fill_11 : decode cX10_fill 11 = .ok (.iload_n 3, 1) := by decide +kernel
theorem dX10_fill_12 : decode cX10_fill 12 = .ok (.iload 4, 2) := by decide +kernel
theorem dX10_fill_14 : decode cX10_fill 14 = .ok (.invokestatic 84, 3) := by decide +kernel
theorem dX10_fill_17 : decode cX10_fill 17 = .ok (.ifCond .ne 6, 3) := by decide +kernel
theorem dX10_fill_20 : decode cX10_fill 20 = .ok (.ldc 88, 2) := by decide +kernel
theorem dX10_fill_22 : decode cX10_fill 22 = .ok (.ireturn, 1) := by decide +kernel
theorem dX10_fill_23 : decode cX10_fill 23 = .ok (.iconst 0, 1) := by decide +kernel
theorem dX10_fill_24 : decode cX10_fill 24 = .ok (.istore 5, 2) := by decide +kernel
theorem dX10_fill_26 : decode cX10_fill 26 = .ok (.iconst 0, 1) := by decide +kernel
theorem dX10_fill_27 : decode cX10_fill 27 = .ok (.istore 6, 2) := by decide +kernel
theorem dX10_fill_29 : decode cX10_fill 29 = .ok (.iload 6, 2) := by decide +kernel
theorem dX10_fill_31 : decode cX10_fill 31 = .ok (.bipush 10, 2) := by decide +kernel
theorem dX10_fill_33 : decode cX10_fill 33 = .ok (.if_icmp .ge 32, 3) := by decide +kernel
theorem dX10_fill_36 : decode cX10_fill 36 = .ok (.aload_n 0, 1) := by decide +kernel
theorem dX10_fill_37 : decode cX10_fill 37 = .ok (.getfield 10, 3) := by decide +kernel
theorem dX10_fill_40 : decode cX10_fill 40 = .ok (.iload_n 1, 1) := by decide +kernel
theorem dX10_fill_41 : decode cX10_fill 41 = .ok (.iload 6, 2) := by decide +kernel
theorem dX10_fill_43 : decode cX10_fill 43 = .ok (.invokestatic 89, 3) := by decide +kernel
theorem dX10_fill_46 : decode cX10_fill 46 = .ok (.iload_n 2, 1) := by decide +kernel
theorem dX10_fill_47 : decode cX10_fill 47 = .ok (.iload_n 3, 1) := by decide +kernel
theorem dX10_fill_48 : decode cX10_fill 48 = .ok (.iload 4, 2) := by decide +kernel
theorem dX10_fill_50 : decode cX10_fill 50 = .ok (.invokevirtual 97, 3) := by decide +kernel
theorem dX10_fill_53 : decode cX10_fill 53 = .ok (.ifCond .eq 6, 3) := by decide +kernel
theorem dX10_fill_56 : decode cX10_fill 56 = .ok (.iinc 5 1, 3) := by decide +kernel
theorem dX10_fill_59 : decode cX10_fill 59 = .ok (.iinc 6 1, 3) := by decide +kernel
theorem dX10_fill_62 : decode cX10_fill 62 = .ok (.goto (-33), 3) := by decide +kernel
theorem dX10_fill_65 : decode cX10_fill 65 = .ok (.iload 5, 2) := by decide +kernel
theorem dX10_fill_67 : decode cX10_fill 67 = .ok (.ireturn, 1) := by decide +kernel
theorem dX10_setLine_0 : decode cX10_setLine 0 = .ok (.iload_n 1, 1) := by decide +kernel
theorem dX10_setLine_1 : decode cX10_setLine 1 = .ok (.invokestatic 101, 3) := by decide +kernel
theorem dX10_setLine_4 : decode cX10_setLine 4 = .ok (.ifCond .ne 6, 3) := by decide +kernel
theorem dX10_setLine_7 : decode cX10_setLine 7 = .ok (.ldc 83, 2) := by decide +kernel
theorem dX10_setLine_9 : decode cX10_setLine 9 = .ok (.ireturn, 1) := by decide +kernel
theorem dX10_setLine_10 : decode cX10_setLine 10 = .ok (.iload_n 2, 1) := by decide +kernel
theorem dX10_setLine_11 : decode cX10_setLine 11 = .ok (.bipush (-4), 2) := by decide +kernel
theorem dX10_setLine_13 : decode cX10_setLine 13 = .ok (.iconst 4, 1) := by decide +kernel
theorem dX10_setLine_14 : decode cX10_setLine 14 = .ok (.invokestatic 105, 3) := by decide +kernel
theorem dX10_setLine_17 : decode cX10_setLine 17 = .ok (.ifCond .eq 34, 3) := by decide +kernel
theorem dX10_setLine_20 : decode cX10_setLine 20 = .ok (.iload_n 3, 1) := by decide +kernel
theorem dX10_setLine_21 : decode cX10_setLine 21 = .ok (.iconst 0, 1) := by decide +kernel
theorem dX10_setLine_22 : decode cX10_setLine 22 = .ok (.bipush 40, 2) := by decide +kernel
theorem dX10_setLine_24 : decode cX10_setLine 24 = .ok (.invokestatic 105, 3) := by decide +kernel
theorem dX10_setLine_27 : decode cX10_setLine 27 = .ok (.ifCond .eq 24, 3) := by decide +kernel
theorem dX10_setLine_30 : decode cX10_setLine 30 = .ok (.iload 4, 2) := by decide +kernel
theorem dX10_setLine_32 : decode cX10_setLine 32 = .ok (.iconst 0, 1) := by decide +kernel
theorem dX10_setLine_33 : decode cX10_setLine 33 = .ok (.iconst 3, 1) := by decide +kernel
theorem dX10_setLine_34 : decode cX10_setLine 34 = .ok (.invokestatic 105, 3) := by decide +kernel
theorem dX10_setLine_37 : decode cX10_setLine 37 = .ok (.ifCond .eq 14, 3) := by decide +kernel
theorem dX10_setLine_40 : decode cX10_setLine 40 = .ok (.iload 5, 2) := by decide +kernel
theorem dX10_setLine_42 : decode cX10_setLine 42 = .ok (.iconst 0, 1) := by decide +kernel
theorem dX10_setLine_43 : decode cX10_setLine 43 = .ok (.bipush 9, 2) := by decide +kernel
theorem dX10_setLine_45 : decode cX10_setLine 45 = .ok (.invokestatic 105, 3) := by decide +kernel
theorem dX10_setLine_48 : decode cX10_setLine 48 = .ok (.ifCond .ne 6, 3) := by decide +kernel
theorem dX10_setLine_51 : decode cX10_setLine 51 = .ok (.ldc 88, 2) := by decide +kernel
theorem dX10_setLine_53 : decode cX10_setLine 53 = .ok (.ireturn, 1) := by decide +kernel
theorem dX10_setLine_54 : decode cX10_setLine 54 = .ok (.aload_n 0, 1) := by decide +kernel
theorem dX10_setLine_55 : decode cX10_setLine 55 = .ok (.getfield 10, 3) := by decide +kernel
theorem dX10_setLine_58 : decode cX10_setLine 58 = .ok (.getfield 108, 3) := by decide +kernel
theorem dX10_setLine_61 : decode cX10_setLine 61 = .ok (.iload_n 1, 1) := by decide +kernel
theorem dX10_setLine_62 : decode cX10_setLine 62 = .ok (.iaload, 1) := by decide +kernel
theorem dX10_setLine_63 : decode cX10_setLine 63 = .ok (.istore 6, 2) := by decide +kernel
theorem dX10_setLine_65 : decode cX10_setLine 65 = .ok (.aload_n 0, 1) := by decide +kernel
theorem dX10_setLine_66 : decode cX10_setLine 66 = .ok (.getfield 10, 3) := by decide +kernel
theorem dX10_setLine_69 : decode cX10_setLine 69 = .ok (.getfield 108, 3) := by decide +kernel
theorem dX10_setLine_72 : decode cX10_setLine 72 = .ok (.iload_n 1, 1) := by decide +kernel
theorem dX10_setLine_73 : decode cX10_setLine 73 = .ok (.iload_n 2, 1) := by decide +kernel
theorem dX10_setLine_74 : decode cX10_setLine 74 = .ok (.iastore, 1) := by decide +kernel
theorem dX10_setLine_75 : decode cX10_setLine 75 = .ok (.aload_n 0, 1) := by decide +kernel
theorem dX10_setLine_76 : decode cX10_setLine 76 = .ok (.getfield 10, 3) := by decide +kernel
theorem dX10_setLine_79 : decode cX10_setLine 79 = .ok (.getfield 111, 3) := by decide +kernel
theorem dX10_setLine_82 : decode cX10_setLine 82 = .ok (.iload_n 1, 1) := by decide +kernel
theorem dX10_setLine_83 : decode cX10_setLine 83 = .ok (.iload_n 3, 1) := by decide +kernel
theorem dX10_setLine_84 : decode cX10_setLine 84 = .ok (.iastore, 1) := by decide +kernel
theorem dX10_setLine_85 : decode cX10_setLine 85 = .ok (.aload_n 0, 1) := by decide +kernel
theorem dX10_setLine_86 : decode cX10_setLine 86 = .ok (.getfield 10, 3) := by decide +kernel
theorem dX10_setLine_89 : decode cX10_setLine 89 = .ok (.getfield 114, 3) := by decide +kernel
theorem dX10_setLine_92 : decode cX10_setLine 92 = .ok (.iload_n 1, 1) := by decide +kernel
theorem dX10_setLine_93 : decode cX10_setLine 93 = .ok (.iload 4, 2) := by decide +kernel
theorem dX10_setLine_95 : decode cX10_setLine 95 = .ok (.iastore, 1) := by decide +kernel
theorem dX10_setLine_96 : decode cX10_setLine 96 = .ok (.aload_n 0, 1) := by decide +kernel
theorem dX10_setLine_97 : decode cX10_setLine 97 = .ok (.getfield 10, 3) := by decide +kernel
theorem dX10_setLine_100 : decode cX10_setLine 100 = .ok (.getfield 116, 3) := by decide +kernel
theorem dX10_setLine_103 : decode cX10_setLine 103 = .ok (.iload_n 1, 1) := by decide +kernel
theorem dX10_setLine_104 : decode cX10_setLine 104 = .ok (.iload 5, 2) := by decide +kernel
theorem dX10_setLine_106 : decode cX10_setLine 106 = .ok (.iastore, 1) := by decide +kernel
theorem dX10_setLine_107 : decode cX10_setLine 107 = .ok (.aload_n 0, 1) := by decide +kernel
theorem dX10_setLine_108 : decode cX10_setLine 108 = .ok (.getfield 10, 3) := by decide +kernel
theorem dX10_setLine_111 : decode cX10_setLine 111 = .ok (.getfield 119, 3) := by decide +kernel
theorem dX10_setLine_114 : decode cX10_setLine 114 = .ok (.iload_n 1, 1) := by decide +kernel
theorem dX10_setLine_115 : decode cX10_setLine 115 = .ok (.iconst 0, 1) := by decide +kernel
theorem dX10_setLine_116 : decode cX10_setLine 116 = .ok (.bastore, 1) := by decide +kernel
theorem dX10_setLine_117 : decode cX10_setLine 117 = .ok (.iload 6, 2) := by decide +kernel
theorem dX10_setLine_119 : decode cX10_setLine 119 = .ok (.ireturn, 1) := by decide +kernel
theorem dX10_miss_0 : decode cX10_miss 0 = .ok (.iload_n 1, 1) := by decide +kernel
theorem dX10_miss_1 : decode cX10_miss 1 = .ok (.invokestatic 101, 3) := by decide +kernel
theorem dX10_miss_4 : decode cX10_miss 4 = .ok (.ifCond .ne 6, 3) := by decide +kernel
theorem dX10_miss_7 : decode cX10_miss 7 = .ok (.ldc 83, 2) := by decide +kernel
theorem dX10_miss_9 : decode cX10_miss 9 = .ok (.ireturn, 1) := by decide +kernel
theorem dX10_miss_10 : decode cX10_miss 10 = .ok (.aload_n 0, 1) := by decide +kernel
theorem dX10_miss_11 : decode cX10_miss 11 = .ok (.getfield 10, 3) := by decide +kernel
theorem dX10_miss_14 : decode cX10_miss 14 = .ok (.getfield 119, 3) := by decide +kernel
theorem dX10_miss_17 : decode cX10_miss 17 = .ok (.iload_n 1, 1) := by decide +kernel
theorem dX10_miss_18 : decode cX10_miss 18 = .ok (.baload, 1) := by decide +kernel
theorem dX10_miss_19 : decode cX10_miss 19 = .ok (.invokestatic 123, 3) := by decide +kernel
theorem dX10_miss_22 : decode cX10_miss 22 = .ok (.istore_n 3, 1) := by decide +kernel
theorem dX10_miss_23 : decode cX10_miss 23 = .ok (.aload_n 0, 1) := by decide +kernel
theorem dX10_miss_24 : decode cX10_miss 24 = .ok (.getfield 10, 3) := by decide +kernel
theorem dX10_miss_27 : decode cX10_miss 27 = .ok (.getfield 119, 3) := by decide +kernel
theorem dX10_miss_30 : decode cX10_miss 30 = .ok (.iload_n 1, 1) := by decide +kernel
theorem dX10_miss_31 : decode cX10_miss 31 = .ok (.iload_n 2, 1) := by decide +kernel
theorem dX10_miss_32 : decode cX10_miss 32 = .ok (.bastore, 1) := by decide +kernel
theorem dX10_miss_33 : decode cX10_miss 33 = .ok (.iload_n 3, 1) := by decide +kernel
theorem dX10_miss_34 : decode cX10_miss 34 = .ok (.ireturn, 1) := by decide +kernel
theorem dX10_setStandard_0 : decode cX10_setStandard 0 = .ok (.iload_n 1, 1) := by decide +kernel
theorem dX10_setStandard_1 : decode cX10_setStandard 1 = .ok (.iconst 0, 1) := by decide +kernel
theorem dX10_setStandard_2 : decode cX10_setStandard 2 = .ok (.iconst 1, 1) := by decide +kernel
theorem dX10_setStandard_3 : decode cX10_setStandard 3 = .ok (.invokestatic 105, 3) := by decide +kernel
theorem dX10_setStandard_6 : decode cX10_setStandard 6 = .ok (.ifCond .ne 6, 3) := by decide +kernel
theorem dX10_setStandard_9 : decode cX10_setStandard 9 = .ok (.ldc 88, 2) := by decide +kernel
theorem dX10_setStandard_11 : decode cX10_setStandard 11 = .ok (.ireturn, 1) := by decide +kernel
theorem dX10_setStandard_12 : decode cX10_setStandard 12 = .ok (.aload_n 0, 1) := by decide +kernel
theorem dX10_setStandard_13 : decode cX10_setStandard 13 = .ok (.getfield 10, 3) := by decide +kernel
theorem dX10_setStandard_16 : decode cX10_setStandard 16 = .ok (.getfield 127, 3) := by decide +kernel
theorem dX10_setStandard_19 : decode cX10_setStandard 19 = .ok (.istore_n 2, 1) := by decide +kernel
theorem dX10_setStandard_20 : decode cX10_setStandard 20 = .ok (.aload_n 0, 1) := by decide +kernel
theorem dX10_setStandard_21 : decode cX10_setStandard 21 = .ok (.getfield 10, 3) := by decide +kernel
theorem dX10_setStandard_24 : decode cX10_setStandard 24 = .ok (.iload_n 1, 1) := by decide +kernel
theorem dX10_setStandard_25 : decode cX10_setStandard 25 = .ok (.putfield 127, 3) := by decide +kernel
theorem dX10_setStandard_28 : decode cX10_setStandard 28 = .ok (.iload_n 2, 1) := by decide +kernel
theorem dX10_setStandard_29 : decode cX10_setStandard 29 = .ok (.ireturn, 1) := by decide +kernel
theorem dX10_type_0 : decode cX10_type 0 = .ok (.aload_n 0, 1) := by decide +kernel
theorem dX10_type_1 : decode cX10_type 1 = .ok (.getfield 19, 3) := by decide +kernel
theorem dX10_type_4 : decode cX10_type 4 = .ok (.iload_n 1, 1) := by decide +kernel
theorem dX10_type_5 : decode cX10_type 5 = .ok (.invokevirtual 131, 3) := by decide +kernel
theorem dX10_type_8 : decode cX10_type 8 = .ok (.ifCond .eq 13, 3) := by decide +kernel
theorem dX10_type_11 : decode cX10_type 11 = .ok (.aload_n 0, 1) := by decide +kernel
theorem dX10_type_12 : decode cX10_type 12 = .ok (.getfield 19, 3) := by decide +kernel
theorem dX10_type_15 : decode cX10_type 15 = .ok (.getfield 135, 3) := by decide +kernel
theorem dX10_type_18 : decode cX10_type 18 = .ok (.goto 5, 3) := by decide +kernel
theorem dX10_type_21 : decode cX10_type 21 = .ok (.ldc 138, 2) := by decide +kernel
theorem dX10_type_23 : decode cX10_type 23 = .ok (.ireturn, 1) := by decide +kernel
theorem dX10_clearText_0 : decode cX10_clearText 0 = .ok (.aload_n 0, 1) := by decide +kernel
theorem dX10_clearText_1 : decode cX10_clearText 1 = .ok (.getfield 19, 3) := by decide +kernel
theorem dX10_clearText_4 : decode cX10_clearText 4 = .ok (.getfield 135, 3) := by decide +kernel
theorem dX10_clearText_7 : decode cX10_clearText 7 = .ok (.istore_n 1, 1) := by decide +kernel
theorem dX10_clearText_8 : decode cX10_clearText 8 = .ok (.aload_n 0, 1) := by decide +kernel
theorem dX10_clearText_9 : decode cX10_clearText 9 = .ok (.getfield 19, 3) := by decide +kernel
theorem dX10_clearText_12 : decode cX10_clearText 12 = .ok (.iconst 0, 1) := by decide +kernel
theorem dX10_clearText_13 : decode cX10_clearText 13 = .ok (.putfield 135, 3) := by decide +kernel
theorem dX10_clearText_16 : decode cX10_clearText 16 = .ok (.iload_n 1, 1) := by decide +kernel
theorem dX10_clearText_17 : decode cX10_clearText 17 = .ok (.ireturn, 1) := by decide +kernel
theorem dX10_readBars_0 : decode cX10_readBars 0 = .ok (.iload_n 1, 1) := by decide +kernel
theorem dX10_readBars_1 : decode cX10_readBars 1 = .ok (.invokestatic 101, 3) := by decide +kernel
theorem dX10_readBars_4 : decode cX10_readBars 4 = .ok (.ifCond .ne 6, 3) := by decide +kernel
theorem dX10_readBars_7 : decode cX10_readBars 7 = .ok (.ldc 83, 2) := by decide +kernel
theorem dX10_readBars_9 : decode cX10_readBars 9 = .ok (.ireturn, 1) := by decide +kernel
theorem dX10_readBars_10 : decode cX10_readBars 10 = .ok (.aload_n 0, 1) := by decide +kernel
theorem dX10_readBars_11 : decode cX10_readBars 11 = .ok (.getfield 19, 3) := by decide +kernel
theorem dX10_readBars_14 : decode cX10_readBars 14 = .ok (.invokevirtual 139, 3) := by decide +kernel
theorem dX10_readBars_17 : decode cX10_readBars 17 = .ok (.istore_n 2, 1) := by decide +kernel
theorem dX10_readBars_18 : decode cX10_readBars 18 = .ok (.iload_n 2, 1) := by decide +kernel
theorem dX10_readBars_19 : decode cX10_readBars 19 = .ok (.iconst (-1), 1) := by decide +kernel
theorem dX10_readBars_20 : decode cX10_readBars 20 = .ok (.if_icmp .eq 8, 3) := by decide +kernel
theorem dX10_readBars_23 : decode cX10_readBars 23 = .ok (.bipush (-100), 2) := by decide +kernel
theorem dX10_readBars_25 : decode cX10_readBars 25 = .ok (.iload_n 2, 1) := by decide +kernel
theorem dX10_readBars_26 : decode cX10_readBars 26 = .ok (.isub, 1) := by decide +kernel
theorem dX10_readBars_27 : decode cX10_readBars 27 = .ok (.ireturn, 1) := by decide +kernel
theorem dX10_readBars_28 : decode cX10_readBars 28 = .ok (.iconst 0, 1) := by decide +kernel
theorem dX10_readBars_29 : decode cX10_readBars 29 = .ok (.istore_n 3, 1) := by decide +kernel
theorem dX10_readBars_30 : decode cX10_readBars 30 = .ok (.iload_n 3, 1) := by decide +kernel
theorem dX10_readBars_31 : decode cX10_readBars 31 = .ok (.bipush 10, 2) := by decide +kernel
theorem dX10_readBars_33 : decode cX10_readBars 33 = .ok (.if_icmp .ge 26, 3) := by decide +kernel
theorem dX10_readBars_36 : decode cX10_readBars 36 = .ok (.aload_n 0, 1) := by decide +kernel
theorem dX10_readBars_37 : decode cX10_readBars 37 = .ok (.getfield 19, 3) := by decide +kernel
theorem dX10_readBars_40 : decode cX10_readBars 40 = .ok (.aload_n 0, 1) := by decide +kernel
theorem dX10_readBars_41 : decode cX10_readBars 41 = .ok (.getfield 10, 3) := by decide +kernel
theorem dX10_readBars_44 : decode cX10_readBars 44 = .ok (.iload_n 1, 1) := by decide +kernel
theorem dX10_readBars_45 : decode cX10_readBars 45 = .ok (.iload_n 3, 1) := by decide +kernel
theorem dX10_readBars_46 : decode cX10_readBars 46 = .ok (.invokestatic 89, 3) := by decide +kernel
theorem dX10_readBars_49 : decode cX10_readBars 49 = .ok (.iload_n 3, 1) := by decide +kernel
theorem dX10_readBars_50 : decode cX10_readBars 50 = .ok (.invokevirtual 143, 3) := by decide +kernel
theorem dX10_readBars_53 : decode cX10_readBars 53 = .ok (.iinc 3 1, 3) := by decide +kernel
theorem dX10_readBars_56 : decode cX10_readBars 56 = .ok (.goto (-26), 3) := by decide +kernel
theorem dX10_readBars_59 : decode cX10_readBars 59 = .ok (.aload_n 0, 1) := by decide +kernel
theorem dX10_readBars_60 : decode cX10_readBars 60 = .ok (.getfield 19, 3) := by decide +kernel
theorem dX10_readBars_63 : decode cX10_readBars 63 = .ok (.getfield 147, 3) := by decide +kernel
theorem dX10_readBars_66 : decode cX10_readBars 66 = .ok (.ireturn, 1) := by decide +kernel
theorem dX10_sample_0 : decode cX10_sample 0 = .ok (.iload_n 1, 1) := by decide +kernel
theorem dX10_sample_1 : decode cX10_sample 1 = .ok (.invokestatic 101, 3) := by decide +kernel
theorem dX10_sample_4 : decode cX10_sample 4 = .ok (.ifCond .ne 6, 3) := by decide +kernel
theorem dX10_sample_7 : decode cX10_sample 7 = .ok (.ldc 83, 2) := by decide +kernel
theorem dX10_sample_9 : decode cX10_sample 9 = .ok (.ireturn, 1) := by decide +kernel
theorem dX10_sample_10 : decode cX10_sample 10 = .ok (.iload_n 2, 1) := by decide +kernel
theorem dX10_sample_11 : decode cX10_sample 11 = .ok (.iconst 0, 1) := by decide +kernel
theorem dX10_sample_12 : decode cX10_sample 12 = .ok (.bipush 111, 2) := by decide +kernel
theorem dX10_sample_14 : decode cX10_sample 14 = .ok (.invokestatic 105, 3) := by decide +kernel
theorem dX10_sample_17 : decode cX10_sample 17 = .ok (.ifCond .ne 6, 3) := by decide +kernel
theorem dX10_sample_20 : decode cX10_sample 20 = .ok (.ldc 88, 2) := by decide +kernel
theorem dX10_sample_22 : decode cX10_sample 22 = .ok (.ireturn, 1) := by decide +kernel
theorem dX10_sample_23 : decode cX10_sample 23 = .ok (.aload_n 0, 1) := by decide +kernel
theorem dX10_sample_24 : decode cX10_sample 24 = .ok (.getfield 10, 3) := by decide +kernel
theorem dX10_sample_27 : decode cX10_sample 27 = .ok (.iload_n 1, 1) := by decide +kernel
theorem dX10_sample_28 : decode cX10_sample 28 = .ok (.iload_n 2, 1) := by decide +kernel
theorem dX10_sample_29 : decode cX10_sample 29 = .ok (.invokevirtual 150, 3) := by decide +kernel
theorem dX10_sample_32 : decode cX10_sample 32 = .ok (.ireturn, 1) := by decide +kernel
theorem dX10_set_0 : decode cX10_set 0 = .ok (.iload_n 1, 1) := by decide +kernel
theorem dX10_set_1 : decode cX10_set 1 = .ok (.iconst 0, 1) := by decide +kernel
theorem dX10_set_2 : decode cX10_set 2 = .ok (.iconst 3, 1) := by decide +kernel
theorem dX10_set_3 : decode cX10_set 3 = .ok (.invokestatic 105, 3) := by decide +kernel
theorem dX10_set_6 : decode cX10_set 6 = .ok (.ifCond .ne 6, 3) := by decide +kernel
theorem dX10_set_9 : decode cX10_set 9 = .ok (.ldc 83, 2) := by decide +kernel
theorem dX10_set_11 : decode cX10_set 11 = .ok (.ireturn, 1) := by decide +kernel
theorem dX10_set_12 : decode cX10_set 12 = .ok (.aload_n 0, 1) := by decide +kernel
theorem dX10_set_13 : decode cX10_set 13 = .ok (.getfield 26, 3) := by decide +kernel
theorem dX10_set_16 : decode cX10_set 16 = .ok (.iload_n 1, 1) := by decide +kernel
theorem dX10_set_17 : decode cX10_set 17 = .ok (.iload_n 2, 1) := by decide +kernel
theorem dX10_set_18 : decode cX10_set 18 = .ok (.invokevirtual 153, 3) := by decide +kernel
theorem dX10_set_21 : decode cX10_set 21 = .ok (.ifCond .ne 6, 3) := by decide +kernel
theorem dX10_set_24 : decode cX10_set 24 = .ok (.ldc 88, 2) := by decide +kernel
theorem dX10_set_26 : decode cX10_set 26 = .ok (.ireturn, 1) := by decide +kernel
theorem dX10_set_27 : decode cX10_set 27 = .ok (.aload_n 0, 1) := by decide +kernel
theorem dX10_set_28 : decode cX10_set 28 = .ok (.getfield 26, 3) := by decide +kernel
theorem dX10_set_31 : decode cX10_set 31 = .ok (.getfield 156, 3) := by decide +kernel
theorem dX10_set_34 : decode cX10_set 34 = .ok (.iload_n 1, 1) := by decide +kernel
theorem dX10_set_35 : decode cX10_set 35 = .ok (.iaload, 1) := by decide +kernel
theorem dX10_set_36 : decode cX10_set 36 = .ok (.istore_n 3, 1) := by decide +kernel
theorem dX10_set_37 : decode cX10_set 37 = .ok (.aload_n 0, 1) := by decide +kernel
theorem dX10_set_38 : decode cX10_set 38 = .ok (.getfield 26, 3) := by decide +kernel
theorem dX10_set_41 : decode cX10_set 41 = .ok (.getfield 156, 3) := by decide +kernel
theorem dX10_set_44 : decode cX10_set 44 = .ok (.iload_n 1, 1) := by decide +kernel
theorem dX10_set_45 : decode cX10_set 45 = .ok (.iload_n 2, 1) := by decide +kernel
theorem dX10_set_46 : decode cX10_set 46 = .ok (.iastore, 1) := by decide +kernel
theorem dX10_set_47 : decode cX10_set 47 = .ok (.iload_n 3, 1) := by decide +kernel
theorem dX10_set_48 : decode cX10_set 48 = .ok (.ireturn, 1) := by decide +kernel
theorem dX10_decode_0 : decode cX10_decode 0 = .ok (.aload_n 0, 1) := by decide +kernel
theorem dX10_decode_1 : decode cX10_decode 1 = .ok (.getfield 33, 3) := by decide +kernel
theorem dX10_decode_4 : decode cX10_decode 4 = .ok (.aload_n 0, 1) := by decide +kernel
theorem dX10_decode_5 : decode cX10_decode 5 = .ok (.getfield 10, 3) := by decide +kernel
theorem dX10_decode_8 : decode cX10_decode 8 = .ok (.invokevirtual 159, 3) := by decide +kernel
theorem dX10_decode_11 : decode cX10_decode 11 = .ok (.aload_n 0, 1) := by decide +kernel
theorem dX10_decode_12 : decode cX10_decode 12 = .ok (.getfield 40, 3) := by decide +kernel
theorem dX10_decode_15 : decode cX10_decode 15 = .ok (.aload_n 0, 1) := by decide +kernel
theorem dX10_decode_16 : decode cX10_decode 16 = .ok (.getfield 33, 3) := by decide +kernel
theorem dX10_decode_19 : decode cX10_decode 19 = .ok (.invokevirtual 163, 3) := by decide +kernel
theorem dX10_decode_22 : decode cX10_decode 22 = .ok (.aload_n 0, 1) := by decide +kernel
theorem dX10_decode_23 : decode cX10_decode 23 = .ok (.getfield 47, 3) := by decide +kernel
theorem dX10_decode_26 : decode cX10_decode 26 = .ok (.aload_n 0, 1) := by decide +kernel
theorem dX10_decode_27 : decode cX10_decode 27 = .ok (.getfield 33, 3) := by decide +kernel
theorem dX10_decode_30 : decode cX10_decode 30 = .ok (.aload_n 0, 1) := by decide +kernel
theorem dX10_decode_31 : decode cX10_decode 31 = .ok (.getfield 40, 3) := by decide +kernel
theorem dX10_decode_34 : decode cX10_decode 34 = .ok (.getfield 167, 3) := by decide +kernel
theorem dX10_decode_37 : decode cX10_decode 37 = .ok (.aload_n 0, 1) := by decide +kernel
theorem dX10_decode_38 : decode cX10_decode 38 = .ok (.getfield 26, 3) := by decide +kernel
theorem dX10_decode_41 : decode cX10_decode 41 = .ok (.invokevirtual 170, 3) := by decide +kernel
theorem dX10_decode_44 : decode cX10_decode 44 = .ok (.invokevirtual 173, 3) := by decide +kernel
theorem dX10_decode_47 : decode cX10_decode 47 = .ok (.aload_n 0, 1) := by decide +kernel
theorem dX10_decode_48 : decode cX10_decode 48 = .ok (.getfield 26, 3) := by decide +kernel
theorem dX10_decode_51 : decode cX10_decode 51 = .ok (.aload_n 0, 1) := by decide +kernel
theorem dX10_decode_52 : decode cX10_decode 52 = .ok (.getfield 47, 3) := by decide +kernel
theorem dX10_decode_55 : decode cX10_decode 55 = .ok (.invokevirtual 177, 3) := by decide +kernel
theorem dX10_decode_58 : decode cX10_decode 58 = .ok (.invokevirtual 180, 3) := by decide +kernel
theorem dX10_decode_61 : decode cX10_decode 61 = .ok (.istore_n 1, 1) := by decide +kernel
theorem dX10_decode_62 : decode cX10_decode 62 = .ok (.aload_n 0, 1) := by decide +kernel
theorem dX10_decode_63 : decode cX10_decode 63 = .ok (.getfield 54, 3) := by decide +kernel
theorem dX10_decode_66 : decode cX10_decode 66 = .ok (.aload_n 0, 1) := by decide +kernel
theorem dX10_decode_67 : decode cX10_decode 67 = .ok (.getfield 47, 3) := by decide +kernel
theorem dX10_decode_70 : decode cX10_decode 70 = .ok (.iload_n 1, 1) := by decide +kernel
theorem dX10_decode_71 : decode cX10_decode 71 = .ok (.invokevirtual 184, 3) := by decide +kernel
theorem dX10_decode_74 : decode cX10_decode 74 = .ok (.aload_n 0, 1) := by decide +kernel
theorem dX10_decode_75 : decode cX10_decode 75 = .ok (.getfield 61, 3) := by decide +kernel
theorem dX10_decode_78 : decode cX10_decode 78 = .ok (.aload_n 0, 1) := by decide +kernel
theorem dX10_decode_79 : decode cX10_decode 79 = .ok (.getfield 33, 3) := by decide +kernel
theorem dX10_decode_82 : decode cX10_decode 82 = .ok (.aload_n 0, 1) := by decide +kernel
theorem dX10_decode_83 : decode cX10_decode 83 = .ok (.getfield 40, 3) := by decide +kernel
theorem dX10_decode_86 : decode cX10_decode 86 = .ok (.getfield 167, 3) := by decide +kernel
theorem dX10_decode_89 : decode cX10_decode 89 = .ok (.aload_n 0, 1) := by decide +kernel
theorem dX10_decode_90 : decode cX10_decode 90 = .ok (.getfield 26, 3) := by decide +kernel
theorem dX10_decode_93 : decode cX10_decode 93 = .ok (.iload_n 1, 1) := by decide +kernel
theorem dX10_decode_94 : decode cX10_decode 94 = .ok (.invokevirtual 188, 3) := by decide +kernel
theorem dX10_decode_97 : decode cX10_decode 97 = .ok (.aload_n 0, 1) := by decide +kernel
theorem dX10_decode_98 : decode cX10_decode 98 = .ok (.getfield 68, 3) := by decide +kernel
theorem dX10_decode_101 : decode cX10_decode 101 = .ok (.aload_n 0, 1) := by decide +kernel
theorem dX10_decode_102 : decode cX10_decode 102 = .ok (.getfield 61, 3) := by decide +kernel
theorem dX10_decode_105 : decode cX10_decode 105 = .ok (.aload_n 0, 1) := by decide +kernel
theorem dX10_decode_106 : decode cX10_decode 106 = .ok (.getfield 47, 3) := by decide +kernel
theorem dX10_decode_109 : decode cX10_decode 109 = .ok (.aload_n 0, 1) := by decide +kernel
theorem dX10_decode_110 : decode cX10_decode 110 = .ok (.getfield 54, 3) := by decide +kernel
theorem dX10_decode_113 : decode cX10_decode 113 = .ok (.iload_n 1, 1) := by decide +kernel
theorem dX10_decode_114 : decode cX10_decode 114 = .ok (.invokevirtual 192, 3) := by decide +kernel
theorem dX10_decode_117 : decode cX10_decode 117 = .ok (.aload_n 0, 1) := by decide +kernel
theorem dX10_decode_118 : decode cX10_decode 118 = .ok (.getfield 75, 3) := by decide +kernel
theorem dX10_decode_121 : decode cX10_decode 121 = .ok (.aload_n 0, 1) := by decide +kernel
theorem dX10_decode_122 : decode cX10_decode 122 = .ok (.getfield 61, 3) := by decide +kernel
theorem dX10_decode_125 : decode cX10_decode 125 = .ok (.getfield 196, 3) := by decide +kernel
theorem dX10_decode_128 : decode cX10_decode 128 = .ok (.aload_n 0, 1) := by decide +kernel
theorem dX10_decode_129 : decode cX10_decode 129 = .ok (.getfield 26, 3) := by decide +kernel
theorem dX10_decode_132 : decode cX10_decode 132 = .ok (.invokevirtual 197, 3) := by decide +kernel
theorem dX10_decode_135 : decode cX10_decode 135 = .ok (.aload_n 0, 1) := by decide +kernel
theorem dX10_decode_136 : decode cX10_decode 136 = .ok (.getfield 200, 3) := by decide +kernel
theorem dX10_decode_139 : decode cX10_decode 139 = .ok (.ifCond .le 7, 3) := by decide +kernel
theorem dX10_decode_142 : decode cX10_decode 142 = .ok (.iconst 1, 1) := by decide +kernel
theorem dX10_decode_143 : decode cX10_decode 143 = .ok (.goto 4, 3) := by decide +kernel
theorem dX10_decode_146 : decode cX10_decode 146 = .ok (.iconst 0, 1) := by decide +kernel
theorem dX10_decode_147 : decode cX10_decode 147 = .ok (.invokevirtual 203, 3) := by decide +kernel
theorem dX10_decode_150 : decode cX10_decode 150 = .ok (.aload_n 0, 1) := by decide +kernel
theorem dX10_decode_151 : decode cX10_decode 151 = .ok (.dup, 1) := by decide +kernel
theorem dX10_decode_152 : decode cX10_decode 152 = .ok (.getfield 200, 3) := by decide +kernel
theorem dX10_decode_155 : decode cX10_decode 155 = .ok (.iconst 1, 1) := by decide +kernel
theorem dX10_decode_156 : decode cX10_decode 156 = .ok (.iadd, 1) := by decide +kernel
theorem dX10_decode_157 : decode cX10_decode 157 = .ok (.putfield 200, 3) := by decide +kernel
theorem dX10_decode_160 : decode cX10_decode 160 = .ok (.aload_n 0, 1) := by decide +kernel
theorem dX10_decode_161 : decode cX10_decode 161 = .ok (.getfield 40, 3) := by decide +kernel
theorem dX10_decode_164 : decode cX10_decode 164 = .ok (.getfield 207, 3) := by decide +kernel
theorem dX10_decode_167 : decode cX10_decode 167 = .ok (.invokestatic 210, 3) := by decide +kernel
theorem dX10_decode_170 : decode cX10_decode 170 = .ok (.ireturn, 1) := by decide +kernel
theorem dX10_line_0 : decode cX10_line 0 = .ok (.iload_n 1, 1) := by decide +kernel
theorem dX10_line_1 : decode cX10_line 1 = .ok (.invokestatic 101, 3) := by decide +kernel
theorem dX10_line_4 : decode cX10_line 4 = .ok (.ifCond .ne 6, 3) := by decide +kernel
theorem dX10_line_7 : decode cX10_line 7 = .ok (.ldc 83, 2) := by decide +kernel
theorem dX10_line_9 : decode cX10_line 9 = .ok (.ireturn, 1) := by decide +kernel
theorem dX10_line_10 : decode cX10_line 10 = .ok (.iload_n 2, 1) := by decide +kernel
theorem dX10_line_11 : decode cX10_line 11 = .ok (.iconst 0, 1) := by decide +kernel
theorem dX10_line_12 : decode cX10_line 12 = .ok (.bipush 7, 2) := by decide +kernel
theorem dX10_line_14 : decode cX10_line 14 = .ok (.invokestatic 105, 3) := by decide +kernel
theorem dX10_line_17 : decode cX10_line 17 = .ok (.ifCond .ne 6, 3) := by decide +kernel
theorem dX10_line_20 : decode cX10_line 20 = .ok (.ldc 88, 2) := by decide +kernel
theorem dX10_line_22 : decode cX10_line 22 = .ok (.ireturn, 1) := by decide +kernel
theorem dX10_line_23 : decode cX10_line 23 = .ok (.aload_n 0, 1) := by decide +kernel
theorem dX10_line_24 : decode cX10_line 24 = .ok (.getfield 200, 3) := by decide +kernel
theorem dX10_line_27 : decode cX10_line 27 = .ok (.ifCond .ne 6, 3) := by decide +kernel
theorem dX10_line_30 : decode cX10_line 30 = .ok (.ldc 214, 2) := by decide +kernel
theorem dX10_line_32 : decode cX10_line 32 = .ok (.ireturn, 1) := by decide +kernel
theorem dX10_line_33 : decode cX10_line 33 = .ok (.iload_n 2, 1) := by decide +kernel
theorem dX10_line_34 : decode cX10_line 34 = .ok (.tableswitch 139 0 6 #[42, 70, 80, 93, 103, 113, 126], 42) := by decide +kernel
theorem dX10_line_76 : decode cX10_line 76 = .ok (.aload_n 0, 1) := by decide +kernel
theorem dX10_line_77 : decode cX10_line 77 = .ok (.getfield 40, 3) := by decide +kernel
theorem dX10_line_80 : decode cX10_line 80 = .ok (.getfield 215, 3) := by decide +kernel
theorem dX10_line_83 : decode cX10_line 83 = .ok (.iload_n 1, 1) := by decide +kernel
theorem dX10_line_84 : decode cX10_line 84 = .ok (.iaload, 1) := by decide +kernel
theorem dX10_line_85 : decode cX10_line 85 = .ok (.iconst (-1), 1) := by decide +kernel
theorem dX10_line_86 : decode cX10_line 86 = .ok (.if_icmp .ne 8, 3) := by decide +kernel
theorem dX10_line_89 : decode cX10_line 89 = .ok (.ldc 214, 2) := by decide +kernel
theorem dX10_line_91 : decode cX10_line 91 = .ok (.goto 12, 3) := by decide +kernel
theorem dX10_line_94 : decode cX10_line 94 = .ok (.aload_n 0, 1) := by decide +kernel
theorem dX10_line_95 : decode cX10_line 95 = .ok (.getfield 40, 3) := by decide +kernel
theorem dX10_line_98 : decode cX10_line 98 = .ok (.getfield 215, 3) := by decide +kernel
theorem dX10_line_101 : decode cX10_line 101 = .ok (.iload_n 1, 1) := by decide +kernel
theorem dX10_line_102 : decode cX10_line 102 = .ok (.iaload, 1) := by decide +kernel
theorem dX10_line_103 : decode cX10_line 103 = .ok (.ireturn, 1) := by decide +kernel
theorem dX10_line_104 : decode cX10_line 104 = .ok (.aload_n 0, 1) := by decide +kernel
theorem dX10_line_105 : decode cX10_line 105 = .ok (.getfield 40, 3) := by decide +kernel
theorem dX10_line_108 : decode cX10_line 108 = .ok (.getfield 167, 3) := by decide +kernel
theorem dX10_line_111 : decode cX10_line 111 = .ok (.iload_n 1, 1) := by decide +kernel
theorem dX10_line_112 : decode cX10_line 112 = .ok (.iaload, 1) := by decide +kernel
theorem dX10_line_113 : decode cX10_line 113 = .ok (.ireturn, 1) := by decide +kernel
theorem dX10_line_114 : decode cX10_line 114 = .ok (.aload_n 0, 1) := by decide +kernel
theorem dX10_line_115 : decode cX10_line 115 = .ok (.getfield 40, 3) := by decide +kernel
theorem dX10_line_118 : decode cX10_line 118 = .ok (.getfield 207, 3) := by decide +kernel
theorem dX10_line_121 : decode cX10_line 121 = .ok (.iload_n 1, 1) := by decide +kernel
theorem dX10_line_122 : decode cX10_line 122 = .ok (.baload, 1) := by decide +kernel
theorem dX10_line_123 : decode cX10_line 123 = .ok (.invokestatic 123, 3) := by decide +kernel
theorem dX10_line_126 : decode cX10_line 126 = .ok (.ireturn, 1) := by decide +kernel
theorem dX10_line_127 : decode cX10_line 127 = .ok (.aload_n 0, 1) := by decide +kernel
theorem dX10_line_128 : decode cX10_line 128 = .ok (.getfield 47, 3) := by decide +kernel
theorem dX10_line_131 : decode cX10_line 131 = .ok (.getfield 218, 3) := by decide +kernel
theorem dX10_line_134 : decode cX10_line 134 = .ok (.iload_n 1, 1) := by decide +kernel
theorem dX10_line_135 : decode cX10_line 135 = .ok (.iaload, 1) := by decide +kernel
theorem dX10_line_136 : decode cX10_line 136 = .ok (.ireturn, 1) := by decide +kernel
theorem dX10_line_137 : decode cX10_line 137 = .ok (.aload_n 0, 1) := by decide +kernel
theorem dX10_line_138 : decode cX10_line 138 = .ok (.getfield 47, 3) := by decide +kernel
theorem dX10_line_141 : decode cX10_line 141 = .ok (.getfield 221, 3) := by decide +kernel
theorem dX10_line_144 : decode cX10_line 144 = .ok (.iload_n 1, 1) := by decide +kernel
theorem dX10_line_145 : decode cX10_line 145 = .ok (.iaload, 1) := by decide +kernel
theorem dX10_line_146 : decode cX10_line 146 = .ok (.ireturn, 1) := by decide +kernel
theorem dX10_line_147 : decode cX10_line 147 = .ok (.aload_n 0, 1) := by decide +kernel
theorem dX10_line_148 : decode cX10_line 148 = .ok (.getfield 47, 3) := by decide +kernel
theorem dX10_line_151 : decode cX10_line 151 = .ok (.getfield 224, 3) := by decide +kernel
theorem dX10_line_154 : decode cX10_line 154 = .ok (.iload_n 1, 1) := by decide +kernel
theorem dX10_line_155 : decode cX10_line 155 = .ok (.baload, 1) := by decide +kernel
theorem dX10_line_156 : decode cX10_line 156 = .ok (.invokestatic 123, 3) := by decide +kernel
theorem dX10_line_159 : decode cX10_line 159 = .ok (.ireturn, 1) := by decide +kernel
theorem dX10_line_160 : decode cX10_line 160 = .ok (.aload_n 0, 1) := by decide +kernel
theorem dX10_line_161 : decode cX10_line 161 = .ok (.getfield 47, 3) := by decide +kernel
theorem dX10_line_164 : decode cX10_line 164 = .ok (.getfield 227, 3) := by decide +kernel
theorem dX10_line_167 : decode cX10_line 167 = .ok (.iload_n 1, 1) := by decide +kernel
theorem dX10_line_168 : decode cX10_line 168 = .ok (.baload, 1) := by decide +kernel
theorem dX10_line_169 : decode cX10_line 169 = .ok (.invokestatic 123, 3) := by decide +kernel
theorem dX10_line_172 : decode cX10_line 172 = .ok (.ireturn, 1) := by decide +kernel
theorem dX10_line_173 : decode cX10_line 173 = .ok (.aload_n 0, 1) := by decide +kernel
theorem dX10_line_174 : decode cX10_line 174 = .ok (.getfield 40, 3) := by decide +kernel
theorem dX10_line_177 : decode cX10_line 177 = .ok (.getfield 230, 3) := by decide +kernel
theorem dX10_line_180 : decode cX10_line 180 = .ok (.iload_n 1, 1) := by decide +kernel
theorem dX10_line_181 : decode cX10_line 181 = .ok (.iaload, 1) := by decide +kernel
theorem dX10_line_182 : decode cX10_line 182 = .ok (.ireturn, 1) := by decide +kernel
theorem dX10_luma_0 : decode cX10_luma 0 = .ok (.iload_n 1, 1) := by decide +kernel
theorem dX10_luma_1 : decode cX10_luma 1 = .ok (.iload_n 2, 1) := by decide +kernel
theorem dX10_luma_2 : decode cX10_luma 2 = .ok (.invokestatic 79, 3) := by decide +kernel
theorem dX10_luma_5 : decode cX10_luma 5 = .ok (.ifCond .ne 6, 3) := by decide +kernel
theorem dX10_luma_8 : decode cX10_luma 8 = .ok (.ldc 83, 2) := by decide +kernel
theorem dX10_luma_10 : decode cX10_luma 10 = .ok (.ireturn, 1) := by decide +kernel
theorem dX10_luma_11 : decode cX10_luma 11 = .ok (.aload_n 0, 1) := by decide +kernel
theorem dX10_luma_12 : decode cX10_luma 12 = .ok (.getfield 200, 3) := by decide +kernel
theorem dX10_luma_15 : decode cX10_luma 15 = .ok (.ifCond .ne 8, 3) := by decide +kernel
theorem dX10_luma_18 : decode cX10_luma 18 = .ok (.ldc 214, 2) := by decide +kernel
theorem dX10_luma_20 : decode cX10_luma 20 = .ok (.goto 16, 3) := by decide +kernel
theorem dX10_luma_23 : decode cX10_luma 23 = .ok (.aload_n 0, 1) := by decide +kernel
theorem dX10_luma_24 : decode cX10_luma 24 = .ok (.getfield 61, 3) := by decide +kernel
theorem dX10_luma_27 : decode cX10_luma 27 = .ok (.getfield 196, 3) := by decide +kernel
theorem dX10_luma_30 : decode cX10_luma 30 = .ok (.iload_n 1, 1) := by decide +kernel
theorem dX10_luma_31 : decode cX10_luma 31 = .ok (.iload_n 2, 1) := by decide +kernel
theorem dX10_luma_32 : decode cX10_luma 32 = .ok (.invokestatic 89, 3) := by decide +kernel
theorem dX10_luma_35 : decode cX10_luma 35 = .ok (.iaload, 1) := by decide +kernel
theorem dX10_luma_36 : decode cX10_luma 36 = .ok (.ireturn, 1) := by decide +kernel
theorem dX10_combed_0 : decode cX10_combed 0 = .ok (.iload_n 1, 1) := by decide +kernel
theorem dX10_combed_1 : decode cX10_combed 1 = .ok (.iload_n 2, 1) := by decide +kernel
theorem dX10_combed_2 : decode cX10_combed 2 = .ok (.invokestatic 79, 3) := by decide +kernel
theorem dX10_combed_5 : decode cX10_combed 5 = .ok (.ifCond .ne 6, 3) := by decide +kernel
theorem dX10_combed_8 : decode cX10_combed 8 = .ok (.ldc 83, 2) := by decide +kernel
theorem dX10_combed_10 : decode cX10_combed 10 = .ok (.ireturn, 1) := by decide +kernel
theorem dX10_combed_11 : decode cX10_combed 11 = .ok (.aload_n 0, 1) := by decide +kernel
theorem dX10_combed_12 : decode cX10_combed 12 = .ok (.getfield 200, 3) := by decide +kernel
theorem dX10_combed_15 : decode cX10_combed 15 = .ok (.ifCond .ne 8, 3) := by decide +kernel
theorem dX10_combed_18 : decode cX10_combed 18 = .ok (.ldc 214, 2) := by decide +kernel
theorem dX10_combed_20 : decode cX10_combed 20 = .ok (.goto 16, 3) := by decide +kernel
theorem dX10_combed_23 : decode cX10_combed 23 = .ok (.aload_n 0, 1) := by decide +kernel
theorem dX10_combed_24 : decode cX10_combed 24 = .ok (.getfield 61, 3) := by decide +kernel
theorem dX10_combed_27 : decode cX10_combed 27 = .ok (.getfield 233, 3) := by decide +kernel
theorem dX10_combed_30 : decode cX10_combed 30 = .ok (.iload_n 1, 1) := by decide +kernel
theorem dX10_combed_31 : decode cX10_combed 31 = .ok (.iload_n 2, 1) := by decide +kernel
theorem dX10_combed_32 : decode cX10_combed 32 = .ok (.invokestatic 89, 3) := by decide +kernel
theorem dX10_combed_35 : decode cX10_combed 35 = .ok (.iaload, 1) := by decide +kernel
theorem dX10_combed_36 : decode cX10_combed 36 = .ok (.ireturn, 1) := by decide +kernel
theorem dX10_u_0 : decode cX10_u 0 = .ok (.iload_n 1, 1) := by decide +kernel
theorem dX10_u_1 : decode cX10_u 1 = .ok (.iload_n 2, 1) := by decide +kernel
theorem dX10_u_2 : decode cX10_u 2 = .ok (.invokestatic 79, 3) := by decide +kernel
theorem dX10_u_5 : decode cX10_u 5 = .ok (.ifCond .eq 19, 3) := by decide +kernel
theorem dX10_u_8 : decode cX10_u 8 = .ok (.aload_n 0, 1) := by decide +kernel
theorem dX10_u_9 : decode cX10_u 9 = .ok (.getfield 68, 3) := by decide +kernel
theorem dX10_u_12 : decode cX10_u 12 = .ok (.getfield 236, 3) := by decide +kernel
theorem dX10_u_15 : decode cX10_u 15 = .ok (.iload_n 1, 1) := by decide +kernel
theorem dX10_u_16 : decode cX10_u 16 = .ok (.iload_n 2, 1) := by decide +kernel
theorem dX10_u_17 : decode cX10_u 17 = .ok (.invokestatic 89, 3) := by decide +kernel
theorem dX10_u_20 : decode cX10_u 20 = .ok (.faload, 1) := by decide +kernel
theorem dX10_u_21 : decode cX10_u 21 = .ok (.goto 4, 3) := by decide +kernel
theorem dX10_u_24 : decode cX10_u 24 = .ok (.fconst 0, 1) := by decide +kernel
theorem dX10_u_25 : decode cX10_u 25 = .ok (.freturn, 1) := by decide +kernel
theorem dX10_v_0 : decode cX10_v 0 = .ok (.iload_n 1, 1) := by decide +kernel
theorem dX10_v_1 : decode cX10_v 1 = .ok (.iload_n 2, 1) := by decide +kernel
theorem dX10_v_2 : decode cX10_v 2 = .ok (.invokestatic 79, 3) := by decide +kernel
theorem dX10_v_5 : decode cX10_v 5 = .ok (.ifCond .eq 19, 3) := by decide +kernel
theorem dX10_v_8 : decode cX10_v 8 = .ok (.aload_n 0, 1) := by decide +kernel
theorem dX10_v_9 : decode cX10_v 9 = .ok (.getfield 68, 3) := by decide +kernel
theorem dX10_v_12 : decode cX10_v 12 = .ok (.getfield 240, 3) := by decide +kernel
theorem dX10_v_15 : decode cX10_v 15 = .ok (.iload_n 1, 1) := by decide +kernel
theorem dX10_v_16 : decode cX10_v 16 = .ok (.iload_n 2, 1) := by decide +kernel
theorem dX10_v_17 : decode cX10_v 17 = .ok (.invokestatic 89, 3) := by decide +kernel
theorem dX10_v_20 : decode cX10_v 20 = .ok (.faload, 1) := by decide +kernel
theorem dX10_v_21 : decode cX10_v 21 = .ok (.goto 4, 3) := by decide +kernel
theorem dX10_v_24 : decode cX10_v 24 = .ok (.fconst 0, 1) := by decide +kernel
theorem dX10_v_25 : decode cX10_v 25 = .ok (.freturn, 1) := by decide +kernel
theorem dX10_thousandths_0 : decode cX10_thousandths 0 = .ok (.iload_n 1, 1) := by decide +kernel
theorem dX10_thousandths_1 : decode cX10_thousandths 1 = .ok (.iload_n 2, 1) := by decide +kernel
theorem dX10_thousandths_2 : decode cX10_thousandths 2 = .ok (.invokestatic 79, 3) := by decide +kernel
theorem dX10_thousandths_5 : decode cX10_thousandths 5 = .ok (.ifCond .ne 6, 3) := by decide +kernel
theorem dX10_thousandths_8 : decode cX10_thousandths 8 = .ok (.ldc 83, 2) := by decide +kernel
theorem dX10_thousandths_10 : decode cX10_thousandths 10 = .ok (.ireturn, 1) := by decide +kernel
theorem dX10_thousandths_11 : decode cX10_thousandths 11 = .ok (.iload_n 3, 1) := by decide +kernel
theorem dX10_thousandths_12 : decode cX10_thousandths 12 = .ok (.iconst 0, 1) := by decide +kernel
theorem dX10_thousandths_13 : decode cX10_thousandths 13 = .ok (.iconst 1, 1) := by decide +kernel
theorem dX10_thousandths_14 : decode cX10_thousandths 14 = .ok (.invokestatic 105, 3) := by decide +kernel
theorem dX10_thousandths_17 : decode cX10_thousandths 17 = .ok (.ifCond .ne 6, 3) := by decide +kernel
theorem dX10_thousandths_20 : decode cX10_thousandths 20 = .ok (.ldc 88, 2) := by decide +kernel
theorem dX10_thousandths_22 : decode cX10_thousandths 22 = .ok (.ireturn, 1) := by decide +kernel
theorem dX10_thousandths_23 : decode cX10_thousandths 23 = .ok (.aload_n 0, 1) := by decide +kernel
theorem dX10_thousandths_24 : decode cX10_thousandths 24 = .ok (.getfield 200, 3) := by decide +kernel
theorem dX10_thousandths_27 : decode cX10_thousandths 27 = .ok (.ifCond .ne 6, 3) := by decide +kernel
theorem dX10_thousandths_30 : decode cX10_thousandths 30 = .ok (.ldc 214, 2) := by decide +kernel
theorem dX10_thousandths_32 : decode cX10_thousandths 32 = .ok (.ireturn, 1) := by decide +kernel
theorem dX10_thousandths_33 : decode cX10_thousandths 33 = .ok (.iload_n 1, 1) := by decide +kernel
theorem dX10_thousandths_34 : decode cX10_thousandths 34 = .ok (.iload_n 2, 1) := by decide +kernel
theorem dX10_thousandths_35 : decode cX10_thousandths 35 = .ok (.invokestatic 89, 3) := by decide +kernel
theorem dX10_thousandths_38 : decode cX10_thousandths 38 = .ok (.istore 4, 2) := by decide +kernel
theorem dX10_thousandths_40 : decode cX10_thousandths 40 = .ok (.iload_n 3, 1) := by decide +kernel
theorem dX10_thousandths_41 : decode cX10_thousandths 41 = .ok (.ifCond .ne 16, 3) := by decide +kernel
theorem dX10_thousandths_44 : decode cX10_thousandths 44 = .ok (.aload_n 0, 1) := by decide +kernel
theorem dX10_thousandths_45 : decode cX10_thousandths 45 = .ok (.getfield 68, 3) := by decide +kernel
theorem dX10_thousandths_48 : decode cX10_thousandths 48 = .ok (.getfield 236, 3) := by decide +kernel
theorem dX10_thousandths_51 : decode cX10_thousandths 51 = .ok (.iload 4, 2) := by decide +kernel
theorem dX10_thousandths_53 : decode cX10_thousandths 53 = .ok (.faload, 1) := by decide +kernel
theorem dX10_thousandths_54 : decode cX10_thousandths 54 = .ok (.goto 13, 3) := by decide +kernel
theorem dX10_thousandths_57 : decode cX10_thousandths 57 = .ok (.aload_n 0, 1) := by decide +kernel
theorem dX10_thousandths_58 : decode cX10_thousandths 58 = .ok (.getfield 68, 3) := by decide +kernel
theorem dX10_thousandths_61 : decode cX10_thousandths 61 = .ok (.getfield 240, 3) := by decide +kernel
theorem dX10_thousandths_64 : decode cX10_thousandths 64 = .ok (.iload 4, 2) := by decide +kernel
theorem dX10_thousandths_66 : decode cX10_thousandths 66 = .ok (.faload, 1) := by decide +kernel
theorem dX10_thousandths_67 : decode cX10_thousandths 67 = .ok (.fstore 5, 2) := by decide +kernel
theorem dX10_thousandths_69 : decode cX10_thousandths 69 = .ok (.fload 5, 2) := by decide +kernel
theorem dX10_thousandths_71 : decode cX10_thousandths 71 = .ok (.ldc 243, 2) := by decide +kernel
theorem dX10_thousandths_73 : decode cX10_thousandths 73 = .ok (.fmul, 1) := by decide +kernel
theorem dX10_thousandths_74 : decode cX10_thousandths 74 = .ok (.f2i, 1) := by decide +kernel
theorem dX10_thousandths_75 : decode cX10_thousandths 75 = .ok (.ireturn, 1) := by decide +kernel
theorem dX10_reference_0 : decode cX10_reference 0 = .ok (.iload_n 1, 1) := by decide +kernel
theorem dX10_reference_1 : decode cX10_reference 1 = .ok (.invokestatic 101, 3) := by decide +kernel
theorem dX10_reference_4 : decode cX10_reference 4 = .ok (.ifCond .eq 12, 3) := by decide +kernel
theorem dX10_reference_7 : decode cX10_reference 7 = .ok (.iload_n 2, 1) := by decide +kernel
theorem dX10_reference_8 : decode cX10_reference 8 = .ok (.iconst 0, 1) := by decide +kernel
theorem dX10_reference_9 : decode cX10_reference 9 = .ok (.iconst 1, 1) := by decide +kernel
theorem dX10_reference_10 : decode cX10_reference 10 = .ok (.invokestatic 105, 3) := by decide +kernel
theorem dX10_reference_13 : decode cX10_reference 13 = .ok (.ifCond .ne 5, 3) := by decide +kernel
theorem dX10_reference_16 : decode cX10_reference 16 = .ok (.fconst 0, 1) := by decide +kernel
theorem dX10_reference_17 : decode cX10_reference 17 = .ok (.freturn, 1) := by decide +kernel
theorem dX10_reference_18 : decode cX10_reference 18 = .ok (.iload_n 2, 1) := by decide +kernel
theorem dX10_reference_19 : decode cX10_reference 19 = .ok (.ifCond .ne 15, 3) := by decide +kernel
theorem dX10_reference_22 : decode cX10_reference 22 = .ok (.aload_n 0, 1) := by decide +kernel
theorem dX10_reference_23 : decode cX10_reference 23 = .ok (.getfield 54, 3) := by decide +kernel
theorem dX10_reference_26 : decode cX10_reference 26 = .ok (.getfield 244, 3) := by decide +kernel
theorem dX10_reference_29 : decode cX10_reference 29 = .ok (.iload_n 1, 1) := by decide +kernel
theorem dX10_reference_30 : decode cX10_reference 30 = .ok (.faload, 1) := by decide +kernel
theorem dX10_reference_31 : decode cX10_reference 31 = .ok (.goto 12, 3) := by decide +kernel
theorem dX10_reference_34 : decode cX10_reference 34 = .ok (.aload_n 0, 1) := by decide +kernel
theorem dX10_reference_35 : decode cX10_reference 35 = .ok (.getfield 54, 3) := by decide +kernel
theorem dX10_reference_38 : decode cX10_reference 38 = .ok (.getfield 246, 3) := by decide +kernel
theorem dX10_reference_41 : decode cX10_reference 41 = .ok (.iload_n 1, 1) := by decide +kernel
theorem dX10_reference_42 : decode cX10_reference 42 = .ok (.faload, 1) := by decide +kernel
theorem dX10_reference_43 : decode cX10_reference 43 = .ok (.freturn, 1) := by decide +kernel
theorem dX10_motion_0 : decode cX10_motion 0 = .ok (.iload_n 1, 1) := by decide +kernel
theorem dX10_motion_1 : decode cX10_motion 1 = .ok (.iload_n 2, 1) := by decide +kernel
theorem dX10_motion_2 : decode cX10_motion 2 = .ok (.invokestatic 79, 3) := by decide +kernel
theorem dX10_motion_5 : decode cX10_motion 5 = .ok (.ifCond .ne 6, 3) := by decide +kernel
theorem dX10_motion_8 : decode cX10_motion 8 = .ok (.ldc 83, 2) := by decide +kernel
theorem dX10_motion_10 : decode cX10_motion 10 = .ok (.ireturn, 1) := by decide +kernel
theorem dX10_motion_11 : decode cX10_motion 11 = .ok (.aload_n 0, 1) := by decide +kernel
theorem dX10_motion_12 : decode cX10_motion 12 = .ok (.getfield 200, 3) := by decide +kernel
theorem dX10_motion_15 : decode cX10_motion 15 = .ok (.iconst 2, 1) := by decide +kernel
theorem dX10_motion_16 : decode cX10_motion 16 = .ok (.if_icmp .ge 8, 3) := by decide +kernel
theorem dX10_motion_19 : decode cX10_motion 19 = .ok (.ldc 214, 2) := by decide +kernel
theorem dX10_motion_21 : decode cX10_motion 21 = .ok (.goto 16, 3) := by decide +kernel
theorem dX10_motion_24 : decode cX10_motion 24 = .ok (.aload_n 0, 1) := by decide +kernel
theorem dX10_motion_25 : decode cX10_motion 25 = .ok (.getfield 75, 3) := by decide +kernel
theorem dX10_motion_28 : decode cX10_motion 28 = .ok (.getfield 248, 3) := by decide +kernel
theorem dX10_motion_31 : decode cX10_motion 31 = .ok (.iload_n 1, 1) := by decide +kernel
theorem dX10_motion_32 : decode cX10_motion 32 = .ok (.iload_n 2, 1) := by decide +kernel
theorem dX10_motion_33 : decode cX10_motion 33 = .ok (.invokestatic 89, 3) := by decide +kernel
theorem dX10_motion_36 : decode cX10_motion 36 = .ok (.iaload, 1) := by decide +kernel
theorem dX10_motion_37 : decode cX10_motion 37 = .ok (.ireturn, 1) := by decide +kernel
theorem dX10_count_0 : decode cX10_count 0 = .ok (.iload_n 1, 1) := by decide +kernel
theorem dX10_count_1 : decode cX10_count 1 = .ok (.iconst 0, 1) := by decide +kernel
theorem dX10_count_2 : decode cX10_count 2 = .ok (.bipush 18, 2) := by decide +kernel
theorem dX10_count_4 : decode cX10_count 4 = .ok (.invokestatic 105, 3) := by decide +kernel
theorem dX10_count_7 : decode cX10_count 7 = .ok (.ifCond .ne 6, 3) := by decide +kernel
theorem dX10_count_10 : decode cX10_count 10 = .ok (.ldc 88, 2) := by decide +kernel
theorem dX10_count_12 : decode cX10_count 12 = .ok (.ireturn, 1) := by decide +kernel
theorem dX10_count_13 : decode cX10_count 13 = .ok (.iload_n 1, 1) := by decide +kernel
theorem dX10_count_14 : decode cX10_count 14 = .ok (.ifCond .ne 8, 3) := by decide +kernel
theorem dX10_count_17 : decode cX10_count 17 = .ok (.aload_n 0, 1) := by decide +kernel
theorem dX10_count_18 : decode cX10_count 18 = .ok (.getfield 200, 3) := by decide +kernel
theorem dX10_count_21 : decode cX10_count 21 = .ok (.ireturn, 1) := by decide +kernel
theorem dX10_count_22 : decode cX10_count 22 = .ok (.iload_n 1, 1) := by decide +kernel
theorem dX10_count_23 : decode cX10_count 23 = .ok (.bipush 12, 2) := by decide +kernel
theorem dX10_count_25 : decode cX10_count 25 = .ok (.if_icmp .le 9, 3) := by decide +kernel
theorem dX10_count_28 : decode cX10_count 28 = .ok (.aload_n 0, 1) := by decide +kernel
theorem dX10_count_29 : decode cX10_count 29 = .ok (.iload_n 1, 1) := by decide +kernel
theorem dX10_count_30 : decode cX10_count 30 = .ok (.invokevirtual 251, 3) := by decide +kernel
theorem dX10_count_33 : decode cX10_count 33 = .ok (.ireturn, 1) := by decide +kernel
theorem dX10_count_34 : decode cX10_count 34 = .ok (.iload_n 1, 1) := by decide +kernel
theorem dX10_count_35 : decode cX10_count 35 = .ok (.bipush 7, 2) := by decide +kernel
theorem dX10_count_37 : decode cX10_count 37 = .ok (.if_icmp .eq 9, 3) := by decide +kernel
theorem dX10_count_40 : decode cX10_count 40 = .ok (.iload_n 1, 1) := by decide +kernel
theorem dX10_count_41 : decode cX10_count 41 = .ok (.bipush 8, 2) := by decide +kernel
theorem dX10_count_43 : decode cX10_count 43 = .ok (.if_icmp .ne 7, 3) := by decide +kernel
theorem dX10_count_46 : decode cX10_count 46 = .ok (.iconst 2, 1) := by decide +kernel
theorem dX10_count_47 : decode cX10_count 47 = .ok (.goto 4, 3) := by decide +kernel
theorem dX10_count_50 : decode cX10_count 50 = .ok (.iconst 1, 1) := by decide +kernel
theorem dX10_count_51 : decode cX10_count 51 = .ok (.istore_n 2, 1) := by decide +kernel
theorem dX10_count_52 : decode cX10_count 52 = .ok (.aload_n 0, 1) := by decide +kernel
theorem dX10_count_53 : decode cX10_count 53 = .ok (.getfield 200, 3) := by decide +kernel
theorem dX10_count_56 : decode cX10_count 56 = .ok (.iload_n 2, 1) := by decide +kernel
theorem dX10_count_57 : decode cX10_count 57 = .ok (.if_icmp .ge 8, 3) := by decide +kernel
theorem dX10_count_60 : decode cX10_count 60 = .ok (.ldc 214, 2) := by decide +kernel
theorem dX10_count_62 : decode cX10_count 62 = .ok (.goto 8, 3) := by decide +kernel
theorem dX10_count_65 : decode cX10_count 65 = .ok (.aload_n 0, 1) := by decide +kernel
theorem dX10_count_66 : decode cX10_count 66 = .ok (.iload_n 1, 1) := by decide +kernel
theorem dX10_count_67 : decode cX10_count 67 = .ok (.invokevirtual 254, 3) := by decide +kernel
theorem dX10_count_70 : decode cX10_count 70 = .ok (.ireturn, 1) := by decide +kernel
theorem dX10_countOfNow_0 : decode cX10_countOfNow 0 = .ok (.iload_n 1, 1) := by decide +kernel
theorem dX10_countOfNow_1 : decode cX10_countOfNow 1 = .ok (.bipush 13, 2) := by decide +kernel
theorem dX10_countOfNow_3 : decode cX10_countOfNow 3 = .ok (.if_icmp .ne 11, 3) := by decide +kernel
theorem dX10_countOfNow_6 : decode cX10_countOfNow 6 = .ok (.aload_n 0, 1) := by decide +kernel
theorem dX10_countOfNow_7 : decode cX10_countOfNow 7 = .ok (.getfield 10, 3) := by decide +kernel
theorem dX10_countOfNow_10 : decode cX10_countOfNow 10 = .ok (.getfield 127, 3) := by decide +kernel
theorem dX10_countOfNow_13 : decode cX10_countOfNow 13 = .ok (.ireturn, 1) := by decide +kernel
theorem dX10_countOfNow_14 : decode cX10_countOfNow 14 = .ok (.iload_n 1, 1) := by decide +kernel
theorem dX10_countOfNow_15 : decode cX10_countOfNow 15 = .ok (.bipush 14, 2) := by decide +kernel
theorem dX10_countOfNow_17 : decode cX10_countOfNow 17 = .ok (.if_icmp .ne 11, 3) := by decide +kernel
theorem dX10_countOfNow_20 : decode cX10_countOfNow 20 = .ok (.aload_n 0, 1) := by decide +kernel
theorem dX10_countOfNow_21 : decode cX10_countOfNow 21 = .ok (.getfield 19, 3) := by decide +kernel
theorem dX10_countOfNow_24 : decode cX10_countOfNow 24 = .ok (.getfield 135, 3) := by decide +kernel
theorem dX10_countOfNow_27 : decode cX10_countOfNow 27 = .ok (.ireturn, 1) := by decide +kernel
theorem dX10_countOfNow_28 : decode cX10_countOfNow 28 = .ok (.iload_n 1, 1) := by decide +kernel
theorem dX10_countOfNow_29 : decode cX10_countOfNow 29 = .ok (.bipush 15, 2) := by decide +kernel
theorem dX10_countOfNow_31 : decode cX10_countOfNow 31 = .ok (.isub, 1) := by decide +kernel
theorem dX10_countOfNow_32 : decode cX10_countOfNow 32 = .ok (.istore_n 2, 1) := by decide +kernel
theorem dX10_countOfNow_33 : decode cX10_countOfNow 33 = .ok (.iload_n 2, 1) := by decide +kernel
theorem dX10_countOfNow_34 : decode cX10_countOfNow 34 = .ok (.iconst 0, 1) := by decide +kernel
theorem dX10_countOfNow_35 : decode cX10_countOfNow 35 = .ok (.iconst 3, 1) := by decide +kernel
theorem dX10_countOfNow_36 : decode cX10_countOfNow 36 = .ok (.invokestatic 105, 3) := by decide +kernel
theorem dX10_countOfNow_39 : decode cX10_countOfNow 39 = .ok (.ifCond .eq 15, 3) := by decide +kernel
theorem dX10_countOfNow_42 : decode cX10_countOfNow 42 = .ok (.aload_n 0, 1) := by decide +kernel
theorem dX10_countOfNow_43 : decode cX10_countOfNow 43 = .ok (.getfield 26, 3) := by decide +kernel
theorem dX10_countOfNow_46 : decode cX10_countOfNow 46 = .ok (.getfield 156, 3) := by decide +kernel
theorem dX10_countOfNow_49 : decode cX10_countOfNow 49 = .ok (.iload_n 2, 1) := by decide +kernel
theorem dX10_countOfNow_50 : decode cX10_countOfNow 50 = .ok (.iaload, 1) := by decide +kernel
theorem dX10_countOfNow_51 : decode cX10_countOfNow 51 = .ok (.goto 5, 3) := by decide +kernel
theorem dX10_countOfNow_54 : decode cX10_countOfNow 54 = .ok (.ldc 88, 2) := by decide +kernel
theorem dX10_countOfNow_56 : decode cX10_countOfNow 56 = .ok (.ireturn, 1) := by decide +kernel
theorem dX10_countOfDecoding_0 : decode cX10_countOfDecoding 0 = .ok (.iload_n 1, 1) := by decide +kernel
theorem dX10_countOfDecoding_1 : decode cX10_countOfDecoding 1 = .ok (.tableswitch 116 1 8 #[47, 55, 63, 71, 82, 87, 92, 104], 47) := by decide +kernel
theorem dX10_countOfDecoding_48 : decode cX10_countOfDecoding 48 = .ok (.aload_n 0, 1) := by decide +kernel
theorem dX10_countOfDecoding_49 : decode cX10_countOfDecoding 49 = .ok (.getfield 47, 3) := by decide +kernel
theorem dX10_countOfDecoding_52 : decode cX10_countOfDecoding 52 = .ok (.invokevirtual 177, 3) := by decide +kernel
theorem dX10_countOfDecoding_55 : decode cX10_countOfDecoding 55 = .ok (.ireturn, 1) := by decide +kernel
theorem dX10_countOfDecoding_56 : decode cX10_countOfDecoding 56 = .ok (.aload_n 0, 1) := by decide +kernel
theorem dX10_countOfDecoding_57 : decode cX10_countOfDecoding 57 = .ok (.getfield 47, 3) := by decide +kernel
theorem dX10_countOfDecoding_60 : decode cX10_countOfDecoding 60 = .ok (.getfield 257, 3) := by decide +kernel
theorem dX10_countOfDecoding_63 : decode cX10_countOfDecoding 63 = .ok (.ireturn, 1) := by decide +kernel
theorem dX10_countOfDecoding_64 : decode cX10_countOfDecoding 64 = .ok (.aload_n 0, 1) := by decide +kernel
theorem dX10_countOfDecoding_65 : decode cX10_countOfDecoding 65 = .ok (.getfield 47, 3) := by decide +kernel
theorem dX10_countOfDecoding_68 : decode cX10_countOfDecoding 68 = .ok (.getfield 260, 3) := by decide +kernel
theorem dX10_countOfDecoding_71 : decode cX10_countOfDecoding 71 = .ok (.ireturn, 1) := by decide +kernel
theorem dX10_countOfDecoding_72 : decode cX10_countOfDecoding 72 = .ok (.aload_n 0, 1) := by decide +kernel
theorem dX10_countOfDecoding_73 : decode cX10_countOfDecoding 73 = .ok (.getfield 47, 3) := by decide +kernel
theorem dX10_countOfDecoding_76 : decode cX10_countOfDecoding 76 = .ok (.getfield 227, 3) := by decide +kernel
theorem dX10_countOfDecoding_79 : decode cX10_countOfDecoding 79 = .ok (.invokestatic 210, 3) := by decide +kernel
theorem dX10_countOfDecoding_82 : decode cX10_countOfDecoding 82 = .ok (.ireturn, 1) := by decide +kernel
theorem dX10_countOfDecoding_83 : decode cX10_countOfDecoding 83 = .ok (.aload_n 0, 1) := by decide +kernel
theorem dX10_countOfDecoding_84 : decode cX10_countOfDecoding 84 = .ok (.invokevirtual 263, 3) := by decide +kernel
theorem dX10_countOfDecoding_87 : decode cX10_countOfDecoding 87 = .ok (.ireturn, 1) := by decide +kernel
theorem dX10_countOfDecoding_88 : decode cX10_countOfDecoding 88 = .ok (.aload_n 0, 1) := by decide +kernel
theorem dX10_countOfDecoding_89 : decode cX10_countOfDecoding 89 = .ok (.invokevirtual 266, 3) := by decide +kernel
theorem dX10_countOfDecoding_92 : decode cX10_countOfDecoding 92 = .ok (.ireturn, 1) := by decide +kernel
theorem dX10_countOfDecoding_93 : decode cX10_countOfDecoding 93 = .ok (.aload_n 0, 1) := by decide +kernel
theorem dX10_countOfDecoding_94 : decode cX10_countOfDecoding 94 = .ok (.getfield 75, 3) := by decide +kernel
theorem dX10_countOfDecoding_97 : decode cX10_countOfDecoding 97 = .ok (.getfield 248, 3) := by decide +kernel
theorem dX10_countOfDecoding_100 : decode cX10_countOfDecoding 100 = .ok (.iconst 2, 1) := by decide +kernel
theorem dX10_countOfDecoding_101 : decode cX10_countOfDecoding 101 = .ok (.invokestatic 269, 3) := by decide +kernel
theorem dX10_countOfDecoding_104 : decode cX10_countOfDecoding 104 = .ok (.ireturn, 1) := by decide +kernel
theorem dX10_countOfDecoding_105 : decode cX10_countOfDecoding 105 = .ok (.aload_n 0, 1) := by decide +kernel
theorem dX10_countOfDecoding_106 : decode cX10_countOfDecoding 106 = .ok (.getfield 75, 3) := by decide +kernel
theorem dX10_countOfDecoding_109 : decode cX10_countOfDecoding 109 = .ok (.getfield 248, 3) := by decide +kernel
theorem dX10_countOfDecoding_112 : decode cX10_countOfDecoding 112 = .ok (.iconst 1, 1) := by decide +kernel
theorem dX10_countOfDecoding_113 : decode cX10_countOfDecoding 113 = .ok (.invokestatic 269, 3) := by decide +kernel
theorem dX10_countOfDecoding_116 : decode cX10_countOfDecoding 116 = .ok (.ireturn, 1) := by decide +kernel
theorem dX10_countOfDecoding_117 : decode cX10_countOfDecoding 117 = .ok (.aload_n 0, 1) := by decide +kernel
theorem dX10_countOfDecoding_118 : decode cX10_countOfDecoding 118 = .ok (.getfield 61, 3) := by decide +kernel
theorem dX10_countOfDecoding_121 : decode cX10_countOfDecoding 121 = .ok (.getfield 233, 3) := by decide +kernel
theorem dX10_countOfDecoding_124 : decode cX10_countOfDecoding 124 = .ok (.iload_n 1, 1) := by decide +kernel
theorem dX10_countOfDecoding_125 : decode cX10_countOfDecoding 125 = .ok (.bipush 9, 2) := by decide +kernel
theorem dX10_countOfDecoding_127 : decode cX10_countOfDecoding 127 = .ok (.isub, 1) := by decide +kernel
theorem dX10_countOfDecoding_128 : decode cX10_countOfDecoding 128 = .ok (.invokestatic 269, 3) := by decide +kernel
theorem dX10_countOfDecoding_131 : decode cX10_countOfDecoding 131 = .ok (.ireturn, 1) := by decide +kernel
theorem dX10_wrongLumas_0 : decode cX10_wrongLumas 0 = .ok (.iconst 0, 1) := by decide +kernel
theorem dX10_wrongLumas_1 : decode cX10_wrongLumas 1 = .ok (.istore_n 1, 1) := by decide +kernel
theorem dX10_wrongLumas_2 : decode cX10_wrongLumas 2 = .ok (.iconst 0, 1) := by decide +kernel
theorem dX10_wrongLumas_3 : decode cX10_wrongLumas 3 = .ok (.istore_n 2, 1) := by decide +kernel
theorem dX10_wrongLumas_4 : decode cX10_wrongLumas 4 = .ok (.iload_n 2, 1) := by decide +kernel
theorem dX10_wrongLumas_5 : decode cX10_wrongLumas 5 = .ok (.bipush 80, 2) := by decide +kernel
theorem dX10_wrongLumas_7 : decode cX10_wrongLumas 7 = .ok (.if_icmp .ge 41, 3) := by decide +kernel
theorem dX10_wrongLumas_10 : decode cX10_wrongLumas 10 = .ok (.iload_n 1, 1) := by decide +kernel
theorem dX10_wrongLumas_11 : decode cX10_wrongLumas 11 = .ok (.aload_n 0, 1) := by decide +kernel
theorem dX10_wrongLumas_12 : decode cX10_wrongLumas 12 = .ok (.getfield 61, 3) := by decide +kernel
theorem dX10_wrongLumas_15 : decode cX10_wrongLumas 15 = .ok (.getfield 196, 3) := by decide +kernel
theorem dX10_wrongLumas_18 : decode cX10_wrongLumas 18 = .ok (.iload_n 2, 1) := by decide +kernel
theorem dX10_wrongLumas_19 : decode cX10_wrongLumas 19 = .ok (.iaload, 1) := by decide +kernel
theorem dX10_wrongLumas_20 : decode cX10_wrongLumas 20 = .ok (.aload_n 0, 1) := by decide +kernel
theorem dX10_wrongLumas_21 : decode cX10_wrongLumas 21 = .ok (.getfield 10, 3) := by decide +kernel
theorem dX10_wrongLumas_24 : decode cX10_wrongLumas 24 = .ok (.getfield 93, 3) := by decide +kernel
theorem dX10_wrongLumas_27 : decode cX10_wrongLumas 27 = .ok (.iload_n 2, 1) := by decide +kernel
theorem dX10_wrongLumas_28 : decode cX10_wrongLumas 28 = .ok (.iaload, 1) := by decide +kernel
theorem dX10_wrongLumas_29 : decode cX10_wrongLumas 29 = .ok (.if_icmp .eq 7, 3) := by decide +kernel
theorem dX10_wrongLumas_32 : decode cX10_wrongLumas 32 = .ok (.iconst 1, 1) := by decide +kernel
theorem dX10_wrongLumas_33 : decode cX10_wrongLumas 33 = .ok (.goto 4, 3) := by decide +kernel
theorem dX10_wrongLumas_36 : decode cX10_wrongLumas 36 = .ok (.iconst 0, 1) := by decide +kernel
theorem dX10_wrongLumas_37 : decode cX10_wrongLumas 37 = .ok (.invokestatic 123, 3) := by decide +kernel
theorem dX10_wrongLumas_40 : decode cX10_wrongLumas 40 = .ok (.iadd, 1) := by decide +kernel
theorem dX10_wrongLumas_41 : decode cX10_wrongLumas 41 = .ok (.istore_n 1, 1) := by decide +kernel
theorem dX10_wrongLumas_42 : decode cX10_wrongLumas 42 = .ok (.iinc 2 1, 3) := by decide +kernel
theorem dX10_wrongLumas_45 : decode cX10_wrongLumas 45 = .ok (.goto (-41), 3) := by decide +kernel
theorem dX10_wrongLumas_48 : decode cX10_wrongLumas 48 = .ok (.iload_n 1, 1) := by decide +kernel
theorem dX10_wrongLumas_49 : decode cX10_wrongLumas 49 = .ok (.ireturn, 1) := by decide +kernel
theorem dX10_lumaDifferences_0 : decode cX10_lumaDifferences 0 = .ok (.iconst 0, 1) := by decide +kernel
theorem dX10_lumaDifferences_1 : decode cX10_lumaDifferences 1 = .ok (.istore_n 1, 1) := by decide +kernel
theorem dX10_lumaDifferences_2 : decode cX10_lumaDifferences 2 = .ok (.iconst 0, 1) := by decide +kernel
theorem dX10_lumaDifferences_3 : decode cX10_lumaDifferences 3 = .ok (.istore_n 2, 1) := by decide +kernel
theorem dX10_lumaDifferences_4 : decode cX10_lumaDifferences 4 = .ok (.iload_n 2, 1) := by decide +kernel
theorem dX10_lumaDifferences_5 : decode cX10_lumaDifferences 5 = .ok (.bipush 80, 2) := by decide +kernel
theorem dX10_lumaDifferences_7 : decode cX10_lumaDifferences 7 = .ok (.if_icmp .ge 34, 3) := by decide +kernel
theorem dX10_lumaDifferences_10 : decode cX10_lumaDifferences 10 = .ok (.iload_n 1, 1) := by decide +kernel
theorem dX10_lumaDifferences_11 : decode cX10_lumaDifferences 11 = .ok (.aload_n 0, 1) := by decide +kernel
theorem dX10_lumaDifferences_12 : decode cX10_lumaDifferences 12 = .ok (.getfield 61, 3) := by decide +kernel
theorem dX10_lumaDifferences_15 : decode cX10_lumaDifferences 15 = .ok (.getfield 196, 3) := by decide +kernel
theorem dX10_lumaDifferences_18 : decode cX10_lumaDifferences 18 = .ok (.iload_n 2, 1) := by decide +kernel
theorem dX10_lumaDifferences_19 : decode cX10_lumaDifferences 19 = .ok (.iaload, 1) := by decide +kernel
theorem dX10_lumaDifferences_20 : decode cX10_lumaDifferences 20 = .ok (.aload_n 0, 1) := by decide +kernel
theorem dX10_lumaDifferences_21 : decode cX10_lumaDifferences 21 = .ok (.getfield 10, 3) := by decide +kernel
theorem dX10_lumaDifferences_24 : decode cX10_lumaDifferences 24 = .ok (.getfield 93, 3) := by decide +kernel
theorem dX10_lumaDifferences_27 : decode cX10_lumaDifferences 27 = .ok (.iload_n 2, 1) := by decide +kernel
theorem dX10_lumaDifferences_28 : decode cX10_lumaDifferences 28 = .ok (.iaload, 1) := by decide +kernel
theorem dX10_lumaDifferences_29 : decode cX10_lumaDifferences 29 = .ok (.isub, 1) := by decide +kernel
theorem dX10_lumaDifferences_30 : decode cX10_lumaDifferences 30 = .ok (.invokestatic 272, 3) := by decide +kernel
theorem dX10_lumaDifferences_33 : decode cX10_lumaDifferences 33 = .ok (.iadd, 1) := by decide +kernel
theorem dX10_lumaDifferences_34 : decode cX10_lumaDifferences 34 = .ok (.istore_n 1, 1) := by decide +kernel
theorem dX10_lumaDifferences_35 : decode cX10_lumaDifferences 35 = .ok (.iinc 2 1, 3) := by decide +kernel
theorem dX10_lumaDifferences_38 : decode cX10_lumaDifferences 38 = .ok (.goto (-34), 3) := by decide +kernel
theorem dX10_lumaDifferences_41 : decode cX10_lumaDifferences 41 = .ok (.iload_n 1, 1) := by decide +kernel
theorem dX10_lumaDifferences_42 : decode cX10_lumaDifferences 42 = .ok (.ireturn, 1) := by decide +kernel
theorem dX10_tally_0 : decode cX10_tally 0 = .ok (.iconst 0, 1) := by decide +kernel
theorem dX10_tally_1 : decode cX10_tally 1 = .ok (.istore_n 1, 1) := by decide +kernel
theorem dX10_tally_2 : decode cX10_tally 2 = .ok (.aload_n 0, 1) := by decide +kernel
theorem dX10_tally_3 : decode cX10_tally 3 = .ok (.astore_n 2, 1) := by decide +kernel
theorem dX10_tally_4 : decode cX10_tally 4 = .ok (.aload_n 2, 1) := by decide +kernel
theorem dX10_tally_5 : decode cX10_tally 5 = .ok (.arraylength, 1) := by decide +kernel
theorem dX10_tally_6 : decode cX10_tally 6 = .ok (.istore_n 3, 1) := by decide +kernel
theorem dX10_tally_7 : decode cX10_tally 7 = .ok (.iconst 0, 1) := by decide +kernel
theorem dX10_tally_8 : decode cX10_tally 8 = .ok (.istore 4, 2) := by decide +kernel
theorem dX10_tally_10 : decode cX10_tally 10 = .ok (.iload 4, 2) := by decide +kernel
theorem dX10_tally_12 : decode cX10_tally 12 = .ok (.iload_n 3, 1) := by decide +kernel
theorem dX10_tally_13 : decode cX10_tally 13 = .ok (.if_icmp .ge 23, 3) := by decide +kernel
theorem dX10_tally_16 : decode cX10_tally 16 = .ok (.aload_n 2, 1) := by decide +kernel
theorem dX10_tally_17 : decode cX10_tally 17 = .ok (.iload 4, 2) := by decide +kernel
theorem dX10_tally_19 : decode cX10_tally 19 = .ok (.baload, 1) := by decide +kernel
theorem dX10_tally_20 : decode cX10_tally 20 = .ok (.istore 5, 2) := by decide +kernel
theorem dX10_tally_22 : decode cX10_tally 22 = .ok (.iload_n 1, 1) := by decide +kernel
theorem dX10_tally_23 : decode cX10_tally 23 = .ok (.iload 5, 2) := by decide +kernel
theorem dX10_tally_25 : decode cX10_tally 25 = .ok (.invokestatic 123, 3) := by decide +kernel
theorem dX10_tally_28 : decode cX10_tally 28 = .ok (.iadd, 1) := by decide +kernel
theorem dX10_tally_29 : decode cX10_tally 29 = .ok (.istore_n 1, 1) := by decide +kernel
theorem dX10_tally_30 : decode cX10_tally 30 = .ok (.iinc 4 1, 3) := by decide +kernel
theorem dX10_tally_33 : decode cX10_tally 33 = .ok (.goto (-23), 3) := by decide +kernel
theorem dX10_tally_36 : decode cX10_tally 36 = .ok (.iload_n 1, 1) := by decide +kernel
theorem dX10_tally_37 : decode cX10_tally 37 = .ok (.ireturn, 1) := by decide +kernel
theorem dX10_tally__0 : decode cX10_tally_ 0 = .ok (.iconst 0, 1) := by decide +kernel
theorem dX10_tally__1 : decode cX10_tally_ 1 = .ok (.istore_n 2, 1) := by decide +kernel
theorem dX10_tally__2 : decode cX10_tally_ 2 = .ok (.aload_n 0, 1) := by decide +kernel
theorem dX10_tally__3 : decode cX10_tally_ 3 = .ok (.astore_n 3, 1) := by decide +kernel
theorem dX10_tally__4 : decode cX10_tally_ 4 = .ok (.aload_n 3, 1) := by decide +kernel
theorem dX10_tally__5 : decode cX10_tally_ 5 = .ok (.arraylength, 1) := by decide +kernel
theorem dX10_tally__6 : decode cX10_tally_ 6 = .ok (.istore 4, 2) := by decide +kernel
theorem dX10_tally__8 : decode cX10_tally_ 8 = .ok (.iconst 0, 1) := by decide +kernel
theorem dX10_tally__9 : decode cX10_tally_ 9 = .ok (.istore 5, 2) := by decide +kernel
theorem dX10_tally__11 : decode cX10_tally_ 11 = .ok (.iload 5, 2) := by decide +kernel
theorem dX10_tally__13 : decode cX10_tally_ 13 = .ok (.iload 4, 2) := by decide +kernel
theorem dX10_tally__15 : decode cX10_tally_ 15 = .ok (.if_icmp .ge 32, 3) := by decide +kernel
theorem dX10_tally__18 : decode cX10_tally_ 18 = .ok (.aload_n 3, 1) := by decide +kernel
theorem dX10_tally__19 : decode cX10_tally_ 19 = .ok (.iload 5, 2) := by decide +kernel
theorem dX10_tally__21 : decode cX10_tally_ 21 = .ok (.iaload, 1) := by decide +kernel
theorem dX10_tally__22 : decode cX10_tally_ 22 = .ok (.istore 6, 2) := by decide +kernel
theorem dX10_tally__24 : decode cX10_tally_ 24 = .ok (.iload_n 2, 1) := by decide +kernel
theorem dX10_tally__25 : decode cX10_tally_ 25 = .ok (.iload 6, 2) := by decide +kernel
theorem dX10_tally__27 : decode cX10_tally_ 27 = .ok (.iload_n 1, 1) := by decide +kernel
theorem dX10_tally__28 : decode cX10_tally_ 28 = .ok (.if_icmp .ne 7, 3) := by decide +kernel
theorem dX10_tally__31 : decode cX10_tally_ 31 = .ok (.iconst 1, 1) := by decide +kernel
theorem dX10_tally__32 : decode cX10_tally_ 32 = .ok (.goto 4, 3) := by decide +kernel
theorem dX10_tally__35 : decode cX10_tally_ 35 = .ok (.iconst 0, 1) := by decide +kernel
theorem dX10_tally__36 : decode cX10_tally_ 36 = .ok (.invokestatic 123, 3) := by decide +kernel
theorem dX10_tally__39 : decode cX10_tally_ 39 = .ok (.iadd, 1) := by decide +kernel
theorem dX10_tally__40 : decode cX10_tally_ 40 = .ok (.istore_n 2, 1) := by decide +kernel
theorem dX10_tally__41 : decode cX10_tally_ 41 = .ok (.iinc 5 1, 3) := by decide +kernel
theorem dX10_tally__44 : decode cX10_tally_ 44 = .ok (.goto (-33), 3) := by decide +kernel
theorem dX10_tally__47 : decode cX10_tally_ 47 = .ok (.iload_n 2, 1) := by decide +kernel
theorem dX10_tally__48 : decode cX10_tally_ 48 = .ok (.ireturn, 1) := by decide +kernel
theorem dX10_oneIf_0 : decode cX10_oneIf 0 = .ok (.iload_n 0, 1) := by decide +kernel
theorem dX10_oneIf_1 : decode cX10_oneIf 1 = .ok (.ifCond .eq 7, 3) := by decide +kernel
theorem dX10_oneIf_4 : decode cX10_oneIf 4 = .ok (.iconst 1, 1) := by decide +kernel
theorem dX10_oneIf_5 : decode cX10_oneIf 5 = .ok (.goto 4, 3) := by decide +kernel
theorem dX10_oneIf_8 : decode cX10_oneIf 8 = .ok (.iconst 0, 1) := by decide +kernel
theorem dX10_oneIf_9 : decode cX10_oneIf 9 = .ok (.ireturn, 1) := by decide +kernel
theorem dX10_isWithin_0 : decode cX10_isWithin 0 = .ok (.iload_n 0, 1) := by decide +kernel
theorem dX10_isWithin_1 : decode cX10_isWithin 1 = .ok (.iload_n 1, 1) := by decide +kernel
theorem dX10_isWithin_2 : decode cX10_isWithin 2 = .ok (.if_icmp .lt 12, 3) := by decide +kernel
theorem dX10_isWithin_5 : decode cX10_isWithin 5 = .ok (.iload_n 0, 1) := by decide +kernel
theorem dX10_isWithin_6 : decode cX10_isWithin 6 = .ok (.iload_n 2, 1) := by decide +kernel
theorem dX10_isWithin_7 : decode cX10_isWithin 7 = .ok (.if_icmp .gt 7, 3) := by decide +kernel
theorem dX10_isWithin_10 : decode cX10_isWithin 10 = .ok (.iconst 1, 1) := by decide +kernel
theorem dX10_isWithin_11 : decode cX10_isWithin 11 = .ok (.goto 4, 3) := by decide +kernel
theorem dX10_isWithin_14 : decode cX10_isWithin 14 = .ok (.iconst 0, 1) := by decide +kernel
theorem dX10_isWithin_15 : decode cX10_isWithin 15 = .ok (.ireturn, 1) := by decide +kernel
theorem dX10_isLine_0 : decode cX10_isLine 0 = .ok (.iload_n 0, 1) := by decide +kernel
theorem dX10_isLine_1 : decode cX10_isLine 1 = .ok (.iconst 0, 1) := by decide +kernel
theorem dX10_isLine_2 : decode cX10_isLine 2 = .ok (.bipush 7, 2) := by decide +kernel
theorem dX10_isLine_4 : decode cX10_isLine 4 = .ok (.invokestatic 105, 3) := by decide +kernel
theorem dX10_isLine_7 : decode cX10_isLine 7 = .ok (.ireturn, 1) := by decide +kernel
theorem dX10_isPlace_0 : decode cX10_isPlace 0 = .ok (.iload_n 0, 1) := by decide +kernel
theorem dX10_isPlace_1 : decode cX10_isPlace 1 = .ok (.invokestatic 101, 3) := by decide +kernel
theorem dX10_isPlace_4 : decode cX10_isPlace 4 = .ok (.ifCond .eq 17, 3) := by decide +kernel
theorem dX10_isPlace_7 : decode cX10_isPlace 7 = .ok (.iload_n 1, 1) := by decide +kernel
theorem dX10_isPlace_8 : decode cX10_isPlace 8 = .ok (.iconst 0, 1) := by decide +kernel
theorem dX10_isPlace_9 : decode cX10_isPlace 9 = .ok (.bipush 9, 2) := by decide +kernel
theorem dX10_isPlace_11 : decode cX10_isPlace 11 = .ok (.invokestatic 105, 3) := by decide +kernel
theorem dX10_isPlace_14 : decode cX10_isPlace 14 = .ok (.ifCond .eq 7, 3) := by decide +kernel
theorem dX10_isPlace_17 : decode cX10_isPlace 17 = .ok (.iconst 1, 1) := by decide +kernel
theorem dX10_isPlace_18 : decode cX10_isPlace 18 = .ok (.goto 4, 3) := by decide +kernel
theorem dX10_isPlace_21 : decode cX10_isPlace 21 = .ok (.iconst 0, 1) := by decide +kernel
theorem dX10_isPlace_22 : decode cX10_isPlace 22 = .ok (.ireturn, 1) := by decide +kernel
theorem dX10_isPaint_0 : decode cX10_isPaint 0 = .ok (.iload_n 0, 1) := by decide +kernel
theorem dX10_isPaint_1 : decode cX10_isPaint 1 = .ok (.iconst 0, 1) := by decide +kernel
theorem dX10_isPaint_2 : decode cX10_isPaint 2 = .ok (.sipush 200, 3) := by decide +kernel
theorem dX10_isPaint_5 : decode cX10_isPaint 5 = .ok (.invokestatic 105, 3) := by decide +kernel
theorem dX10_isPaint_8 : decode cX10_isPaint 8 = .ok (.ifCond .eq 29, 3) := by decide +kernel
theorem dX10_isPaint_11 : decode cX10_isPaint 11 = .ok (.iload_n 1, 1) := by decide +kernel
theorem dX10_isPaint_12 : decode cX10_isPaint 12 = .ok (.bipush (-60), 2) := by decide +kernel
theorem dX10_isPaint_14 : decode cX10_isPaint 14 = .ok (.bipush 60, 2) := by decide +kernel
theorem dX10_isPaint_16 : decode cX10_isPaint 16 = .ok (.invokestatic 105, 3) := by decide +kernel
theorem dX10_isPaint_19 : decode cX10_isPaint 19 = .ok (.ifCond .eq 18, 3) := by decide +kernel
theorem dX10_isPaint_22 : decode cX10_isPaint 22 = .ok (.iload_n 2, 1) := by decide +kernel
theorem dX10_isPaint_23 : decode cX10_isPaint 23 = .ok (.bipush (-60), 2) := by decide +kernel
theorem dX10_isPaint_25 : decode cX10_isPaint 25 = .ok (.bipush 60, 2) := by decide +kernel
theorem dX10_isPaint_27 : decode cX10_isPaint 27 = .ok (.invokestatic 105, 3) := by decide +kernel
theorem dX10_isPaint_30 : decode cX10_isPaint 30 = .ok (.ifCond .eq 7, 3) := by decide +kernel
theorem dX10_isPaint_33 : decode cX10_isPaint 33 = .ok (.iconst 1, 1) := by decide +kernel
theorem dX10_isPaint_34 : decode cX10_isPaint 34 = .ok (.goto 4, 3) := by decide +kernel
theorem dX10_isPaint_37 : decode cX10_isPaint 37 = .ok (.iconst 0, 1) := by decide +kernel
theorem dX10_isPaint_38 : decode cX10_isPaint 38 = .ok (.ireturn, 1) := by decide +kernel
theorem dX10_placeOf_0 : decode cX10_placeOf 0 = .ok (.iload_n 0, 1) := by decide +kernel
theorem dX10_placeOf_1 : decode cX10_placeOf 1 = .ok (.bipush 10, 2) := by decide +kernel
theorem dX10_placeOf_3 : decode cX10_placeOf 3 = .ok (.imul, 1) := by decide +kernel
theorem dX10_placeOf_4 : decode cX10_placeOf 4 = .ok (.iload_n 1, 1) := by decide +kernel
theorem dX10_placeOf_5 : decode cX10_placeOf 5 = .ok (.iadd, 1) := by decide +kernel
theorem dX10_placeOf_6 : decode cX10_placeOf 6 = .ok (.ireturn, 1) := by decide +kernel
theorem dX10_turnAt_0 : decode cX10_turnAt 0 = .ok (.iload_n 1, 1) := by decide +kernel
theorem dX10_turnAt_1 : decode cX10_turnAt 1 = .ok (.iconst 2, 1) := by decide +kernel
theorem dX10_turnAt_2 : decode cX10_turnAt 2 = .ok (.iload_n 0, 1) := by decide +kernel
theorem dX10_turnAt_3 : decode cX10_turnAt 3 = .ok (.imul, 1) := by decide +kernel
theorem dX10_turnAt_4 : decode cX10_turnAt 4 = .ok (.iadd, 1) := by decide +kernel
theorem dX10_turnAt_5 : decode cX10_turnAt 5 = .ok (.iconst 3, 1) := by decide +kernel
theorem dX10_turnAt_6 : decode cX10_turnAt 6 = .ok (.iand, 1) := by decide +kernel
theorem dX10_turnAt_7 : decode cX10_turnAt 7 = .ok (.ireturn, 1) := by decide +kernel
theorem dX11_init_0 : decode cX11_init 0 = .ok (.aload_n 0, 1) := by decide +kernel
theorem dX11_init_1 : decode cX11_init 1 = .ok (.invokespecial 1, 3) := by decide +kernel
theorem dX11_init_4 : decode cX11_init 4 = .ok (.aload_n 0, 1) := by decide +kernel
theorem dX11_init_5 : decode cX11_init 5 = .ok (.bipush 80, 2) := by decide +kernel
theorem dX11_init_7 : decode cX11_init 7 = .ok (.newarray .int, 2) := by decide +kernel
theorem dX11_init_9 : decode cX11_init 9 = .ok (.putfield 7, 3) := by decide +kernel
theorem dX11_init_12 : decode cX11_init 12 = .ok (.aload_n 0, 1) := by decide +kernel
theorem dX11_init_13 : decode cX11_init 13 = .ok (.bipush 80, 2) := by decide +kernel
theorem dX11_init_15 : decode cX11_init 15 = .ok (.newarray .int, 2) := by decide +kernel
theorem dX11_init_17 : decode cX11_init 17 = .ok (.putfield 13, 3) := by decide +kernel
theorem dX11_init_20 : decode cX11_init 20 = .ok (.aload_n 0, 1) := by decide +kernel
theorem dX11_init_21 : decode cX11_init 21 = .ok (.bipush 80, 2) := by decide +kernel
theorem dX11_init_23 : decode cX11_init 23 = .ok (.newarray .int, 2) := by decide +kernel
theorem dX11_init_25 : decode cX11_init 25 = .ok (.putfield 16, 3) := by decide +kernel
theorem dX11_init_28 : decode cX11_init 28 = .ok (.aload_n 0, 1) := by decide +kernel
theorem dX11_init_29 : decode cX11_init 29 = .ok (.bipush 8, 2) := by decide +kernel
theorem dX11_init_31 : decode cX11_init 31 = .ok (.newarray .int, 2) := by decide +kernel
theorem dX11_init_33 : decode cX11_init 33 = .ok (.putfield 19, 3) := by decide +kernel
theorem dX11_init_36 : decode cX11_init 36 = .ok (.aload_n 0, 1) := by decide +kernel
theorem dX11_init_37 : decode cX11_init 37 = .ok (.bipush 8, 2) := by decide +kernel
theorem dX11_init_39 : decode cX11_init 39 = .ok (.newarray .int, 2) := by decide +kernel
theorem dX11_init_41 : decode cX11_init 41 = .ok (.putfield 22, 3) := by decide +kernel
theorem dX11_init_44 : decode cX11_init 44 = .ok (.aload_n 0, 1) := by decide +kernel
theorem dX11_init_45 : decode cX11_init 45 = .ok (.bipush 8, 2) := by decide +kernel
theorem dX11_init_47 : decode cX11_init 47 = .ok (.newarray .int, 2) := by decide +kernel
theorem dX11_init_49 : decode cX11_init 49 = .ok (.putfield 25, 3) := by decide +kernel
theorem dX11_init_52 : decode cX11_init 52 = .ok (.aload_n 0, 1) := by decide +kernel
theorem dX11_init_53 : decode cX11_init 53 = .ok (.bipush 8, 2) := by decide +kernel
theorem dX11_init_55 : decode cX11_init 55 = .ok (.newarray .int, 2) := by decide +kernel
theorem dX11_init_57 : decode cX11_init 57 = .ok (.putfield 28, 3) := by decide +kernel
theorem dX11_init_60 : decode cX11_init 60 = .ok (.aload_n 0, 1) := by decide +kernel
theorem dX11_init_61 : decode cX11_init 61 = .ok (.bipush 8, 2) := by decide +kernel
theorem dX11_init_63 : decode cX11_init 63 = .ok (.newarray .boolean, 2) := by decide +kernel
theorem dX11_init_65 : decode cX11_init 65 = .ok (.putfield 31, 3) := by decide +kernel
theorem dX11_init_68 : decode cX11_init 68 = .ok (.aload_n 0, 1) := by decide +kernel
theorem dX11_init_69 : decode cX11_init 69 = .ok (.iconst 4, 1) := by decide +kernel
theorem dX11_init_70 : decode cX11_init 70 = .ok (.newarray .int, 2) := by decide +kernel
theorem dX11_init_72 : decode cX11_init 72 = .ok (.putfield 35, 3) := by decide +kernel
theorem dX11_init_75 : decode cX11_init 75 = .ok (.aload_n 0, 1) := by decide +kernel
theorem dX11_init_76 : decode cX11_init 76 = .ok (.bipush 60, 2) := by decide +kernel
theorem dX11_init_78 : decode cX11_init 78 = .ok (.newarray .char, 2) := by decide +kernel
theorem dX11_init_80 : decode cX11_init 80 = .ok (.putfield 38, 3) := by decide +kernel
theorem dX11_init_83 : decode cX11_init 83 = .ok (.aload_n 0, 1) := by decide +kernel
theorem dX11_init_84 : decode cX11_init 84 = .ok (.bipush 20, 2) := by decide +kernel
theorem dX11_init_86 : decode cX11_init 86 = .ok (.newarray .int, 2) := by decide +kernel
theorem dX11_init_88 : decode cX11_init 88 = .ok (.putfield 42, 3) := by decide +kernel
theorem dX11_init_91 : decode cX11_init 91 = .ok (.aload_n 0, 1) := by decide +kernel
theorem dX11_init_92 : decode cX11_init 92 = .ok (.bipush 8, 2) := by decide +kernel
theorem dX11_init_94 : decode cX11_init 94 = .ok (.newarray .int, 2) := by decide +kernel
theorem dX11_init_96 : decode cX11_init 96 = .ok (.putfield 45, 3) := by decide +kernel
theorem dX11_init_99 : decode cX11_init 99 = .ok (.aload_n 0, 1) := by decide +kernel
theorem dX11_init_100 : decode cX11_init 100 = .ok (.bipush 8, 2) := by decide +kernel
theorem dX11_init_102 : decode cX11_init 102 = .ok (.newarray .int, 2) := by decide +kernel
theorem dX11_init_104 : decode cX11_init 104 = .ok (.putfield 48, 3) := by decide +kernel
theorem dX11_init_107 : decode cX11_init 107 = .ok (.aload_n 0, 1) := by decide +kernel
theorem dX11_init_108 : decode cX11_init 108 = .ok (.bipush 8, 2) := by decide +kernel
theorem dX11_init_110 : decode cX11_init 110 = .ok (.newarray .boolean, 2) := by decide +kernel
theorem dX11_init_112 : decode cX11_init 112 = .ok (.putfield 51, 3) := by decide +kernel
theorem dX11_init_115 : decode cX11_init 115 = .ok (.aload_n 0, 1) := by decide +kernel
theorem dX11_init_116 : decode cX11_init 116 = .ok (.bipush 8, 2) := by decide +kernel
theorem dX11_init_118 : decode cX11_init 118 = .ok (.newarray .int, 2) := by decide +kernel
theorem dX11_init_120 : decode cX11_init 120 = .ok (.putfield 54, 3) := by decide +kernel
theorem dX11_init_123 : decode cX11_init 123 = .ok (.aload_n 0, 1) := by decide +kernel
theorem dX11_init_124 : decode cX11_init 124 = .ok (.bipush 8, 2) := by decide +kernel
theorem dX11_init_126 : decode cX11_init 126 = .ok (.newarray .int, 2) := by decide +kernel
theorem dX11_init_128 : decode cX11_init 128 = .ok (.putfield 57, 3) := by decide +kernel
theorem dX11_init_131 : decode cX11_init 131 = .ok (.aload_n 0, 1) := by decide +kernel
theorem dX11_init_132 : decode cX11_init 132 = .ok (.bipush 8, 2) := by decide +kernel
theorem dX11_init_134 : decode cX11_init 134 = .ok (.newarray .int, 2) := by decide +kernel
theorem dX11_init_136 : decode cX11_init 136 = .ok (.putfield 60, 3) := by decide +kernel
theorem dX11_init_139 : decode cX11_init 139 = .ok (.aload_n 0, 1) := by decide +kernel
theorem dX11_init_140 : decode cX11_init 140 = .ok (.bipush 8, 2) := by decide +kernel
theorem dX11_init_142 : decode cX11_init 142 = .ok (.newarray .boolean, 2) := by decide +kernel
theorem dX11_init_144 : decode cX11_init 144 = .ok (.putfield 63, 3) := by decide +kernel
theorem dX11_init_147 : decode cX11_init 147 = .ok (.aload_n 0, 1) := by decide +kernel
theorem dX11_init_148 : decode cX11_init 148 = .ok (.bipush 8, 2) := by decide +kernel
theorem dX11_init_150 : decode cX11_init 150 = .ok (.newarray .boolean, 2) := by decide +kernel
theorem dX11_init_152 : decode cX11_init 152 = .ok (.putfield 66, 3) := by decide +kernel
theorem dX11_init_155 : decode cX11_init 155 = .ok (.aload_n 0, 1) := by decide +kernel
theorem dX11_init_156 : decode cX11_init 156 = .ok (.bipush 8, 2) := by decide +kernel
theorem dX11_init_158 : decode cX11_init 158 = .ok (.newarray .float, 2) := by decide +kernel
theorem dX11_init_160 : decode cX11_init 160 = .ok (.putfield 69, 3) := by decide +kernel
theorem dX11_init_163 : decode cX11_init 163 = .ok (.aload_n 0, 1) := by decide +kernel
theorem dX11_init_164 : decode cX11_init 164 = .ok (.bipush 8, 2) := by decide +kernel
theorem dX11_init_166 : decode cX11_init 166 = .ok (.newarray .float, 2) := by decide +kernel
theorem dX11_init_168 : decode cX11_init 168 = .ok (.putfield 73, 3) := by decide +kernel
theorem dX11_init_171 : decode cX11_init 171 = .ok (.aload_n 0, 1) := by decide +kernel
theorem dX11_init_172 : decode cX11_init 172 = .ok (.bipush 80, 2) := by decide +kernel
theorem dX11_init_174 : decode cX11_init 174 = .ok (.newarray .int, 2) := by decide +kernel
theorem dX11_init_176 : decode cX11_init 176 = .ok (.putfield 76, 3) := by decide +kernel
theorem dX11_init_179 : decode cX11_init 179 = .ok (.aload_n 0, 1) := by decide +kernel
theorem dX11_init_180 : decode cX11_init 180 = .ok (.bipush 80, 2) := by decide +kernel
theorem dX11_init_182 : decode cX11_init 182 = .ok (.newarray .int, 2) := by decide +kernel
theorem dX11_init_184 : decode cX11_init 184 = .ok (.putfield 79, 3) := by decide +kernel
theorem dX11_init_187 : decode cX11_init 187 = .ok (.aload_n 0, 1) := by decide +kernel
theorem dX11_init_188 : decode cX11_init 188 = .ok (.bipush 80, 2) := by decide +kernel
theorem dX11_init_190 : decode cX11_init 190 = .ok (.newarray .int, 2) := by decide +kernel
theorem dX11_init_192 : decode cX11_init 192 = .ok (.putfield 82, 3) := by decide +kernel
theorem dX11_init_195 : decode cX11_init 195 = .ok (.aload_n 0, 1) := by decide +kernel
theorem dX11_init_196 : decode cX11_init 196 = .ok (.bipush 80, 2) := by decide +kernel
theorem dX11_init_198 : decode cX11_init 198 = .ok (.newarray .float, 2) := by decide +kernel
theorem dX11_init_200 : decode cX11_init 200 = .ok (.putfield 85, 3) := by decide +kernel
theorem dX11_init_203 : decode cX11_init 203 = .ok (.aload_n 0, 1) := by decide +kernel
theorem dX11_init_204 : decode cX11_init 204 = .ok (.bipush 80, 2) := by decide +kernel
theorem dX11_init_206 : decode cX11_init 206 = .ok (.newarray .float, 2) := by decide +kernel
theorem dX11_init_208 : decode cX11_init 208 = .ok (.putfield 88, 3) := by decide +kernel
theorem dX11_init_211 : decode cX11_init 211 = .ok (.aload_n 0, 1) := by decide +kernel
theorem dX11_init_212 : decode cX11_init 212 = .ok (.bipush 80, 2) := by decide +kernel
theorem dX11_init_214 : decode cX11_init 214 = .ok (.newarray .float, 2) := by decide +kernel
theorem dX11_init_216 : decode cX11_init 216 = .ok (.putfield 91, 3) := by decide +kernel
theorem dX11_init_219 : decode cX11_init 219 = .ok (.aload_n 0, 1) := by decide +kernel
theorem dX11_init_220 : decode cX11_init 220 = .ok (.bipush 80, 2) := by decide +kernel
theorem dX11_init_222 : decode cX11_init 222 = .ok (.newarray .float, 2) := by decide +kernel
theorem dX11_init_224 : decode cX11_init 224 = .ok (.putfield 94, 3) := by decide +kernel
theorem dX11_init_227 : decode cX11_init 227 = .ok (.aload_n 0, 1) := by decide +kernel
theorem dX11_init_228 : decode cX11_init 228 = .ok (.bipush 8, 2) := by decide +kernel
theorem dX11_init_230 : decode cX11_init 230 = .ok (.newarray .int, 2) := by decide +kernel
theorem dX11_init_232 : decode cX11_init 232 = .ok (.putfield 97, 3) := by decide +kernel
theorem dX11_init_235 : decode cX11_init 235 = .ok (.aload_n 0, 1) := by decide +kernel
theorem dX11_init_236 : decode cX11_init 236 = .ok (.bipush 80, 2) := by decide +kernel
theorem dX11_init_238 : decode cX11_init 238 = .ok (.newarray .boolean, 2) := by decide +kernel
theorem dX11_init_240 : decode cX11_init 240 = .ok (.putfield 100, 3) := by decide +kernel
theorem dX11_init_243 : decode cX11_init 243 = .ok (.iconst 0, 1) := by decide +kernel
theorem dX11_init_244 : decode cX11_init 244 = .ok (.istore_n 1, 1) := by decide +kernel
theorem dX11_init_245 : decode cX11_init 245 = .ok (.iload_n 1, 1) := by decide +kernel
theorem dX11_init_246 : decode cX11_init 246 = .ok (.bipush 8, 2) := by decide +kernel
theorem dX11_init_248 : decode cX11_init 248 = .ok (.if_icmp .ge 17, 3) := by decide +kernel
theorem dX11_init_251 : decode cX11_init 251 = .ok (.aload_n 0, 1) := by decide +kernel
theorem dX11_init_252 : decode cX11_init 252 = .ok (.getfield 22, 3) := by decide +kernel
theorem dX11_init_255 : decode cX11_init 255 = .ok (.iload_n 1, 1) := by decide +kernel
theorem dX11_init_256 : decode cX11_init 256 = .ok (.bipush 20, 2) := by decide +kernel
theorem dX11_init_258 : decode cX11_init 258 = .ok (.iastore, 1) := by decide +kernel
theorem dX11_init_259 : decode cX11_init 259 = .ok (.iinc 1 1, 3) := by decide +kernel
theorem dX11_init_262 : decode cX11_init 262 = .ok (.goto (-17), 3) := by decide +kernel
theorem dX11_init_265 : decode cX11_init 265 = .ok (.aload_n 0, 1) := by decide +kernel
theorem dX11_init_266 : decode cX11_init 266 = .ok (.getfield 35, 3) := by decide +kernel
theorem dX11_init_269 : decode cX11_init 269 = .ok (.iconst 0, 1) := by decide +kernel
theorem dX11_init_270 : decode cX11_init 270 = .ok (.bipush 8, 2) := by decide +kernel
theorem dX11_init_272 : decode cX11_init 272 = .ok (.iastore, 1) := by decide +kernel
theorem dX11_init_273 : decode cX11_init 273 = .ok (.aload_n 0, 1) := by decide +kernel
theorem dX11_init_274 : decode cX11_init 274 = .ok (.getfield 35, 3) := by decide +kernel
theorem dX11_init_277 : decode cX11_init 277 = .ok (.iconst 1, 1) := by decide +kernel
theorem dX11_init_278 : decode cX11_init 278 = .ok (.bipush 10, 2) := by decide +kernel
theorem dX11_init_280 : decode cX11_init 280 = .ok (.iastore, 1) := by decide +kernel
theorem dX11_init_281 : decode cX11_init 281 = .ok (.aload_n 0, 1) := by decide +kernel
theorem dX11_init_282 : decode cX11_init 282 = .ok (.getfield 35, 3) := by decide +kernel
theorem dX11_init_285 : decode cX11_init 285 = .ok (.iconst 2, 1) := by decide +kernel
theorem dX11_init_286 : decode cX11_init 286 = .ok (.iconst 3, 1) := by decide +kernel
theorem dX11_init_287 : decode cX11_init 287 = .ok (.iastore, 1) := by decide +kernel
theorem dX11_init_288 : decode cX11_init 288 = .ok (.aload_n 0, 1) := by decide +kernel
theorem dX11_init_289 : decode cX11_init 289 = .ok (.getfield 35, 3) := by decide +kernel
theorem dX11_init_292 : decode cX11_init 292 = .ok (.iconst 3, 1) := by decide +kernel
theorem dX11_init_293 : decode cX11_init 293 = .ok (.iconst 2, 1) := by decide +kernel
theorem dX11_init_294 : decode cX11_init 294 = .ok (.iastore, 1) := by decide +kernel
theorem dX11_init_295 : decode cX11_init 295 = .ok (.return_, 1) := by decide +kernel
theorem dX11_in_0 : decode cX11_in 0 = .ok (.iload_n 0, 1) := by decide +kernel
theorem dX11_in_1 : decode cX11_in 1 = .ok (.iload_n 1, 1) := by decide +kernel
theorem dX11_in_2 : decode cX11_in 2 = .ok (.if_icmp .lt 12, 3) := by decide +kernel
theorem dX11_in_5 : decode cX11_in 5 = .ok (.iload_n 0, 1) := by decide +kernel
theorem dX11_in_6 : decode cX11_in 6 = .ok (.iload_n 2, 1) := by decide +kernel
theorem dX11_in_7 : decode cX11_in 7 = .ok (.if_icmp .gt 7, 3) := by decide +kernel
theorem dX11_in_10 : decode cX11_in 10 = .ok (.iconst 1, 1) := by decide +kernel
theorem dX11_in_11 : decode cX11_in 11 = .ok (.goto 4, 3) := by decide +kernel
theorem dX11_in_14 : decode cX11_in 14 = .ok (.iconst 0, 1) := by decide +kernel
theorem dX11_in_15 : decode cX11_in 15 = .ok (.ireturn, 1) := by decide +kernel
theorem dX11_size_0 : decode cX11_size 0 = .ok (.iload_n 0, 1) := by decide +kernel
theorem dX11_size_1 : decode cX11_size 1 = .ok (.ifCond .ge 8, 3) := by decide +kernel
theorem dX11_size_4 : decode cX11_size 4 = .ok (.iload_n 0, 1) := by decide +kernel
theorem dX11_size_5 : decode cX11_size 5 = .ok (.ineg, 1) := by decide +kernel
theorem dX11_size_6 : decode cX11_size 6 = .ok (.goto 4, 3) := by decide +kernel
theorem dX11_size_9 : decode cX11_size 9 = .ok (.iload_n 0, 1) := by decide +kernel
theorem dX11_size_10 : decode cX11_size 10 = .ok (.ireturn, 1) := by decide +kernel
theorem dX11_quotient_0 : decode cX11_quotient 0 = .ok (.iload_n 0, 1) := by decide +kernel
theorem dX11_quotient_1 : decode cX11_quotient 1 = .ok (.iload_n 1, 1) := by decide +kernel
theorem dX11_quotient_2 : decode cX11_quotient 2 = .ok (.idiv, 1) := by decide +kernel
theorem dX11_quotient_3 : decode cX11_quotient 3 = .ok (.istore_n 2, 1) := by decide +kernel
theorem dX11_quotient_4 : decode cX11_quotient 4 = .ok (.iload_n 0, 1) := by decide +kernel
theorem dX11_quotient_5 : decode cX11_quotient 5 = .ok (.iload_n 1, 1) := by decide +kernel
theorem dX11_quotient_6 : decode cX11_quotient 6 = .ok (.irem, 1) := by decide +kernel
theorem dX11_quotient_7 : decode cX11_quotient 7 = .ok (.ifCond .ge 9, 3) := by decide +kernel
theorem dX11_quotient_10 : decode cX11_quotient 10 = .ok (.iload_n 2, 1) := by decide +kernel
theorem dX11_quotient_11 : decode cX11_quotient 11 = .ok (.iconst 1, 1) := by decide +kernel
theorem dX11_quotient_12 : decode cX11_quotient 12 = .ok (.isub, 1) := by decide +kernel
theorem dX11_quotient_13 : decode cX11_quotient 13 = .ok (.goto 4, 3) := by decide +kernel
theorem dX11_quotient_16 : decode cX11_quotient 16 = .ok (.iload_n 2, 1) := by decide +kernel
theorem dX11_quotient_17 : decode cX11_quotient 17 = .ok (.ireturn, 1) := by decide +kernel
theorem dX11_rest_0 : decode cX11_rest 0 = .ok (.iload_n 0, 1) := by decide +kernel
theorem dX11_rest_1 : decode cX11_rest 1 = .ok (.iconst 3, 1) := by decide +kernel
theorem dX11_rest_2 : decode cX11_rest 2 = .ok (.iand, 1) := by decide +kernel
theorem dX11_rest_3 : decode cX11_rest 3 = .ok (.ireturn, 1) := by decide +kernel
theorem dX11_a_0 : decode cX11_a 0 = .ok (.iload_n 0, 1) := by decide +kernel
theorem dX11_a_1 : decode cX11_a 1 = .ok (.iconst 1, 1) := by decide +kernel
theorem dX11_a_2 : decode cX11_a 2 = .ok (.if_icmp .ne 7, 3) := by decide +kernel
theorem dX11_a_5 : decode cX11_a 5 = .ok (.iconst 1, 1) := by decide +kernel
theorem dX11_a_6 : decode cX11_a 6 = .ok (.goto 13, 3) := by decide +kernel
theorem dX11_a_9 : decode cX11_a 9 = .ok (.iload_n 0, 1) := by decide +kernel
theorem dX11_a_10 : decode cX11_a 10 = .ok (.iconst 3, 1) := by decide +kernel
theorem dX11_a_11 : decode cX11_a 11 = .ok (.if_icmp .ne 7, 3) := by decide +kernel
theorem dX11_a_14 : decode cX11_a 14 = .ok (.iconst (-1), 1) := by decide +kernel
theorem dX11_a_15 : decode cX11_a 15 = .ok (.goto 4, 3) := by decide +kernel
theorem dX11_a_18 : decode cX11_a 18 = .ok (.iconst 0, 1) := by decide +kernel
theorem dX11_a_19 : decode cX11_a 19 = .ok (.ireturn, 1) := by decide +kernel
theorem dX11_b_0 : decode cX11_b 0 = .ok (.iload_n 0, 1) := by decide +kernel
theorem dX11_b_1 : decode cX11_b 1 = .ok (.ifCond .ne 7, 3) := by decide +kernel
theorem dX11_b_4 : decode cX11_b 4 = .ok (.iconst 1, 1) := by decide +kernel
theorem dX11_b_5 : decode cX11_b 5 = .ok (.goto 13, 3) := by decide +kernel
theorem dX11_b_8 : decode cX11_b 8 = .ok (.iload_n 0, 1) := by decide +kernel
theorem dX11_b_9 : decode cX11_b 9 = .ok (.iconst 2, 1) := by decide +kernel
theorem dX11_b_10 : decode cX11_b 10 = .ok (.if_icmp .ne 7, 3) := by decide +kernel
theorem dX11_b_13 : decode cX11_b 13 = .ok (.iconst (-1), 1) := by decide +kernel
theorem dX11_b_14 : decode cX11_b 14 = .ok (.goto 4, 3) := by decide +kernel
theorem dX11_b_17 : decode cX11_b 17 = .ok (.iconst 0, 1) := by decide +kernel
theorem dX11_b_18 : decode cX11_b 18 = .ok (.ireturn, 1) := by decide +kernel
theorem dX11_noLine_0 : decode cX11_noLine 0 = .ok (.iload_n 0, 1) := by decide +kernel
theorem dX11_noLine_1 : decode cX11_noLine 1 = .ok (.iconst 0, 1) := by decide +kernel
theorem dX11_noLine_2 : decode cX11_noLine 2 = .ok (.bipush 7, 2) := by decide +kernel
theorem dX11_noLine_4 : decode cX11_noLine 4 = .ok (.invokestatic 103, 3) := by decide +kernel
theorem dX11_noLine_7 : decode cX11_noLine 7 = .ok (.ifCond .ne 7, 3) := by decide +kernel
theorem dX11_noLine_10 : decode cX11_noLine 10 = .ok (.iconst 1, 1) := by decide +kernel
theorem dX11_noLine_11 : decode cX11_noLine 11 = .ok (.goto 4, 3) := by decide +kernel
theorem dX11_noLine_14 : decode cX11_noLine 14 = .ok (.iconst 0, 1) := by decide +kernel
theorem dX11_noLine_15 : decode cX11_noLine 15 = .ok (.ireturn, 1) := by decide +kernel
theorem dX11_noSegment_0 : decode cX11_noSegment 0 = .ok (.iload_n 0, 1) := by decide +kernel
theorem dX11_noSegment_1 : decode cX11_noSegment 1 = .ok (.invokestatic 107, 3) := by decide +kernel
theorem dX11_noSegment_4 : decode cX11_noSegment 4 = .ok (.ifCond .ne 13, 3) := by decide +kernel
theorem dX11_noSegment_7 : decode cX11_noSegment 7 = .ok (.iload_n 1, 1) := by decide +kernel
theorem dX11_noSegment_8 : decode cX11_noSegment 8 = .ok (.iconst 0, 1) := by decide +kernel
theorem dX11_noSegment_9 : decode cX11_noSegment 9 = .ok (.bipush 9, 2) := by decide +kernel
theorem dX11_noSegment_11 : decode cX11_noSegment 11 = .ok (.invokestatic 103, 3) := by decide +kernel
theorem dX11_noSegment_14 : decode cX11_noSegment 14 = .ok (.ifCond .ne 7, 3) := by decide +kernel
theorem dX11_noSegment_17 : decode cX11_noSegment 17 = .ok (.iconst 1, 1) := by decide +kernel
theorem dX11_noSegment_18 : decode cX11_noSegment 18 = .ok (.goto 4, 3) := by decide +kernel
theorem dX11_noSegment_21 : decode cX11_noSegment 21 = .ok (.iconst 0, 1) := by decide +kernel
theorem dX11_noSegment_22 : decode cX11_noSegment 22 = .ok (.ireturn, 1) := by decide +kernel
theorem dX11_isColor_0 : decode cX11_isColor 0 = .ok (.iload_n 0, 1) := by decide +kernel
theorem dX11_isColor_1 : decode cX11_isColor 1 = .ok (.iconst 0, 1) := by decide +kernel
theorem dX11_isColor_2 : decode cX11_isColor 2 = .ok (.sipush 200, 3) := by decide +kernel
theorem dX11_isColor_5 : decode cX11_isColor 5 = .ok (.invokestatic 103, 3) := by decide +kernel
theorem dX11_isColor_8 : decode cX11_isColor 8 = .ok (.ifCond .eq 29, 3) := by decide +kernel
theorem dX11_isColor_11 : decode cX11_isColor 11 = .ok (.iload_n 1, 1) := by decide +kernel
theorem dX11_isColor_12 : decode cX11_isColor 12 = .ok (.bipush (-60), 2) := by decide +kernel
theorem dX11_isColor_14 : decode cX11_isColor 14 = .ok (.bipush 60, 2) := by decide +kernel
theorem dX11_isColor_16 : decode cX11_isColor 16 = .ok (.invokestatic 103, 3) := by decide +kernel
theorem dX11_isColor_19 : decode cX11_isColor 19 = .ok (.ifCond .eq 18, 3) := by decide +kernel
theorem dX11_isColor_22 : decode cX11_isColor 22 = .ok (.iload_n 2, 1) := by decide +kernel
theorem dX11_isColor_23 : decode cX11_isColor 23 = .ok (.bipush (-60), 2) := by decide +kernel
theorem dX11_isColor_25 : decode cX11_isColor 25 = .ok (.bipush 60, 2) := by decide +kernel
theorem dX11_isColor_27 : decode cX11_isColor 27 = .ok (.invokestatic 103, 3) := by decide +kernel
theorem dX11_isColor_30 : decode cX11_isColor 30 = .ok (.ifCond .eq 7, 3) := by decide +kernel
theorem dX11_isColor_33 : decode cX11_isColor 33 = .ok (.iconst 1, 1) := by decide +kernel
theorem dX11_isColor_34 : decode cX11_isColor 34 = .ok (.goto 4, 3) := by decide +kernel
theorem dX11_isColor_37 : decode cX11_isColor 37 = .ok (.iconst 0, 1) := by decide +kernel
theorem dX11_isColor_38 : decode cX11_isColor 38 = .ok (.ireturn, 1) := by decide +kernel
theorem dX11_put_0 : decode cX11_put 0 = .ok (.aload_n 0, 1) := by decide +kernel
theorem dX11_put_1 : decode cX11_put 1 = .ok (.getfield 7, 3) := by decide +kernel
theorem dX11_put_4 : decode cX11_put 4 = .ok (.iload_n 1, 1) := by decide +kernel
theorem dX11_put_5 : decode cX11_put 5 = .ok (.iload_n 2, 1) := by decide +kernel
theorem dX11_put_6 : decode cX11_put 6 = .ok (.iastore, 1) := by decide +kernel
theorem dX11_put_7 : decode cX11_put 7 = .ok (.aload_n 0, 1) := by decide +kernel
theorem dX11_put_8 : decode cX11_put 8 = .ok (.getfield 13, 3) := by decide +kernel
theorem dX11_put_11 : decode cX11_put 11 = .ok (.iload_n 1, 1) := by decide +kernel
theorem dX11_put_12 : decode cX11_put 12 = .ok (.iload_n 3, 1) := by decide +kernel
theorem dX11_put_13 : decode cX11_put 13 = .ok (.iastore, 1) := by decide +kernel
theorem dX11_put_14 : decode cX11_put 14 = .ok (.aload_n 0, 1) := by decide +kernel
theorem dX11_put_15 : decode cX11_put 15 = .ok (.getfield 16, 3) := by decide +kernel
theorem dX11_put_18 : decode cX11_put 18 = .ok (.iload_n 1, 1) := by decide +kernel
theorem dX11_put_19 : decode cX11_put 19 = .ok (.iload 4, 2) := by decide +kernel
theorem dX11_put_21 : decode cX11_put 21 = .ok (.iastore, 1) := by decide +kernel
theorem dX11_put_22 : decode cX11_put 22 = .ok (.return_, 1) := by decide +kernel
theorem dX11_setSegment_0 : decode cX11_setSegment 0 = .ok (.iload_n 1, 1) := by decide +kernel
theorem dX11_setSegment_1 : decode cX11_setSegment 1 = .ok (.iload_n 2, 1) := by decide +kernel
theorem dX11_setSegment_2 : decode cX11_setSegment 2 = .ok (.invokestatic 111, 3) := by decide +kernel
theorem dX11_setSegment_5 : decode cX11_setSegment 5 = .ok (.ifCond .eq 6, 3) := by decide +kernel
theorem dX11_setSegment_8 : decode cX11_setSegment 8 = .ok (.ldc 115, 2) := by decide +kernel
theorem dX11_setSegment_10 : decode cX11_setSegment 10 = .ok (.ireturn, 1) := by decide +kernel
theorem dX11_setSegment_11 : decode cX11_setSegment 11 = .ok (.iload_n 3, 1) := by decide +kernel
theorem dX11_setSegment_12 : decode cX11_setSegment 12 = .ok (.iload 4, 2) := by decide +kernel
theorem dX11_setSegment_14 : decode cX11_setSegment 14 = .ok (.iload 5, 2) := by decide +kernel
theorem dX11_setSegment_16 : decode cX11_setSegment 16 = .ok (.invokestatic 116, 3) := by decide +kernel
theorem dX11_setSegment_19 : decode cX11_setSegment 19 = .ok (.ifCond .ne 6, 3) := by decide +kernel
theorem dX11_setSegment_22 : decode cX11_setSegment 22 = .ok (.ldc 119, 2) := by decide +kernel
theorem dX11_setSegment_24 : decode cX11_setSegment 24 = .ok (.ireturn, 1) := by decide +kernel
theorem dX11_setSegment_25 : decode cX11_setSegment 25 = .ok (.aload_n 0, 1) := by decide +kernel
theorem dX11_setSegment_26 : decode cX11_setSegment 26 = .ok (.getfield 7, 3) := by decide +kernel
theorem dX11_setSegment_29 : decode cX11_setSegment 29 = .ok (.bipush 10, 2) := by decide +kernel
theorem dX11_setSegment_31 : decode cX11_setSegment 31 = .ok (.iload_n 1, 1) := by decide +kernel
theorem dX11_setSegment_32 : decode cX11_setSegment 32 = .ok (.imul, 1) := by decide +kernel
theorem dX11_setSegment_33 : decode cX11_setSegment 33 = .ok (.iload_n 2, 1) := by decide +kernel
end
section
/-! decode rows, part 3 -/
theorem dX11_setSegment_34 : decode cX11_setSegment 34 = .ok (.iadd, 1) := by decide +kernel
theorem dX11_setSegment_35 : decode cX11_setSegment 35 = .ok (.iaload, 1) := by decide +kernel
theorem dX11_setSegment_36 : decode cX11_setSegment 36 = .ok (.istore 6, 2) := by decide +kernel
theorem dX11_setSegment_38 : decode cX11_setSegment 38 = .ok (.aload_n 0, 1) := by decide +kernel
theorem dX11_setSegment_39 : decode cX11_setSegment 39 = .ok (.bipush 10, 2) := by decide +kernel
theorem dX11_setSegment_41 : decode cX11_setSegment 41 = .ok (.iload_n 1, 1) := by decide +kernel
theorem dX11_setSegment_42 : decode cX11_setSegment 42 = .ok (.imul, 1) := by decide +kernel
theorem dX11_setSegment_43 : decode cX11_setSegment 43 = .ok (.iload_n 2, 1) := by decide +kernel
theorem dX11_setSegment_44 : decode cX11_setSegment 44 = .ok (.iadd, 1) := by decide +kernel
theorem dX11_setSegment_45 : decode cX11_setSegment 45 = .ok (.iload_n 3, 1) := by decide +kernel
theorem dX11_setSegment_46 : decode cX11_setSegment 46 = .ok (.iload 4, 2) := by decide +kernel
theorem dX11_setSegment_48 : decode cX11_setSegment 48 = .ok (.iload 5, 2) := by decide +kernel
theorem dX11_setSegment_50 : decode cX11_setSegment 50 = .ok (.invokevirtual 120, 3) := by decide +kernel
theorem dX11_setSegment_53 : decode cX11_setSegment 53 = .ok (.iload 6, 2) := by decide +kernel
theorem dX11_setSegment_55 : decode cX11_setSegment 55 = .ok (.ireturn, 1) := by decide +kernel
theorem dX11_fill_0 : decode cX11_fill 0 = .ok (.iload_n 1, 1) := by decide +kernel
theorem dX11_fill_1 : decode cX11_fill 1 = .ok (.invokestatic 107, 3) := by decide +kernel
theorem dX11_fill_4 : decode cX11_fill 4 = .ok (.ifCond .eq 6, 3) := by decide +kernel
theorem dX11_fill_7 : decode cX11_fill 7 = .ok (.ldc 115, 2) := by decide +kernel
theorem dX11_fill_9 : decode cX11_fill 9 = .ok (.ireturn, 1) := by decide +kernel
theorem dX11_fill_10 : decode cX11_fill 10 = .ok (.iload_n 2, 1) := by decide +kernel
theorem dX11_fill_11 : decode cX11_fill 11 = .ok (.iload_n 3, 1) := by decide +kernel
theorem dX11_fill_12 : decode cX11_fill 12 = .ok (.iload 4, 2) := by decide +kernel
theorem dX11_fill_14 : decode cX11_fill 14 = .ok (.invokestatic 116, 3) := by decide +kernel
theorem dX11_fill_17 : decode cX11_fill 17 = .ok (.ifCond .ne 6, 3) := by decide +kernel
theorem dX11_fill_20 : decode cX11_fill 20 = .ok (.ldc 119, 2) := by decide +kernel
theorem dX11_fill_22 : decode cX11_fill 22 = .ok (.ireturn, 1) := by decide +kernel
theorem dX11_fill_23 : decode cX11_fill 23 = .ok (.iconst 0, 1) := by decide +kernel
theorem dX11_fill_24 : decode cX11_fill 24 = .ok (.istore 5, 2) := by decide +kernel
theorem dX11_fill_26 : decode cX11_fill 26 = .ok (.bipush 10, 2) := by decide +kernel
theorem dX11_fill_28 : decode cX11_fill 28 = .ok (.iload_n 1, 1) := by decide +kernel
theorem dX11_fill_29 : decode cX11_fill 29 = .ok (.imul, 1) := by decide +kernel
theorem dX11_fill_30 : decode cX11_fill 30 = .ok (.istore 6, 2) := by decide +kernel
theorem dX11_fill_32 : decode cX11_fill 32 = .ok (.iload 6, 2) := by decide +kernel
theorem dX11_fill_34 : decode cX11_fill 34 = .ok (.bipush 10, 2) := by decide +kernel
theorem dX11_fill_36 : decode cX11_fill 36 = .ok (.iload_n 1, 1) := by decide +kernel
theorem dX11_fill_37 : decode cX11_fill 37 = .ok (.imul, 1) := by decide +kernel
theorem dX11_fill_38 : decode cX11_fill 38 = .ok (.bipush 10, 2) := by decide +kernel
theorem dX11_fill_40 : decode cX11_fill 40 = .ok (.iadd, 1) := by decide +kernel
theorem dX11_fill_41 : decode cX11_fill 41 = .ok (.if_icmp .ge 63, 3) := by decide +kernel
theorem dX11_fill_44 : decode cX11_fill 44 = .ok (.iload 5, 2) := by decide +kernel
theorem dX11_fill_46 : decode cX11_fill 46 = .ok (.aload_n 0, 1) := by decide +kernel
theorem dX11_fill_47 : decode cX11_fill 47 = .ok (.getfield 7, 3) := by decide +kernel
theorem dX11_fill_50 : decode cX11_fill 50 = .ok (.iload 6, 2) := by decide +kernel
theorem dX11_fill_52 : decode cX11_fill 52 = .ok (.iaload, 1) := by decide +kernel
theorem dX11_fill_53 : decode cX11_fill 53 = .ok (.iload_n 2, 1) := by decide +kernel
theorem dX11_fill_54 : decode cX11_fill 54 = .ok (.if_icmp .ne 26, 3) := by decide +kernel
theorem dX11_fill_57 : decode cX11_fill 57 = .ok (.aload_n 0, 1) := by decide +kernel
theorem dX11_fill_58 : decode cX11_fill 58 = .ok (.getfield 13, 3) := by decide +kernel
theorem dX11_fill_61 : decode cX11_fill 61 = .ok (.iload 6, 2) := by decide +kernel
theorem dX11_fill_63 : decode cX11_fill 63 = .ok (.iaload, 1) := by decide +kernel
theorem dX11_fill_64 : decode cX11_fill 64 = .ok (.iload_n 3, 1) := by decide +kernel
theorem dX11_fill_65 : decode cX11_fill 65 = .ok (.if_icmp .ne 15, 3) := by decide +kernel
theorem dX11_fill_68 : decode cX11_fill 68 = .ok (.aload_n 0, 1) := by decide +kernel
theorem dX11_fill_69 : decode cX11_fill 69 = .ok (.getfield 16, 3) := by decide +kernel
theorem dX11_fill_72 : decode cX11_fill 72 = .ok (.iload 6, 2) := by decide +kernel
theorem dX11_fill_74 : decode cX11_fill 74 = .ok (.iaload, 1) := by decide +kernel
theorem dX11_fill_75 : decode cX11_fill 75 = .ok (.iload 4, 2) := by decide +kernel
theorem dX11_fill_77 : decode cX11_fill 77 = .ok (.if_icmp .eq 7, 3) := by decide +kernel
theorem dX11_fill_80 : decode cX11_fill 80 = .ok (.iconst 1, 1) := by decide +kernel
theorem dX11_fill_81 : decode cX11_fill 81 = .ok (.goto 4, 3) := by decide +kernel
theorem dX11_fill_84 : decode cX11_fill 84 = .ok (.iconst 0, 1) := by decide +kernel
theorem dX11_fill_85 : decode cX11_fill 85 = .ok (.iadd, 1) := by decide +kernel
theorem dX11_fill_86 : decode cX11_fill 86 = .ok (.istore 5, 2) := by decide +kernel
theorem dX11_fill_88 : decode cX11_fill 88 = .ok (.aload_n 0, 1) := by decide +kernel
theorem dX11_fill_89 : decode cX11_fill 89 = .ok (.iload 6, 2) := by decide +kernel
theorem dX11_fill_91 : decode cX11_fill 91 = .ok (.iload_n 2, 1) := by decide +kernel
theorem dX11_fill_92 : decode cX11_fill 92 = .ok (.iload_n 3, 1) := by decide +kernel
theorem dX11_fill_93 : decode cX11_fill 93 = .ok (.iload 4, 2) := by decide +kernel
theorem dX11_fill_95 : decode cX11_fill 95 = .ok (.invokevirtual 120, 3) := by decide +kernel
theorem dX11_fill_98 : decode cX11_fill 98 = .ok (.iinc 6 1, 3) := by decide +kernel
theorem dX11_fill_101 : decode cX11_fill 101 = .ok (.goto (-69), 3) := by decide +kernel
theorem dX11_fill_104 : decode cX11_fill 104 = .ok (.iload 5, 2) := by decide +kernel
theorem dX11_fill_106 : decode cX11_fill 106 = .ok (.ireturn, 1) := by decide +kernel
theorem dX11_setLine_0 : decode cX11_setLine 0 = .ok (.iload_n 1, 1) := by decide +kernel
theorem dX11_setLine_1 : decode cX11_setLine 1 = .ok (.invokestatic 107, 3) := by decide +kernel
theorem dX11_setLine_4 : decode cX11_setLine 4 = .ok (.ifCond .eq 6, 3) := by decide +kernel
theorem dX11_setLine_7 : decode cX11_setLine 7 = .ok (.ldc 115, 2) := by decide +kernel
theorem dX11_setLine_9 : decode cX11_setLine 9 = .ok (.ireturn, 1) := by decide +kernel
theorem dX11_setLine_10 : decode cX11_setLine 10 = .ok (.iload_n 2, 1) := by decide +kernel
theorem dX11_setLine_11 : decode cX11_setLine 11 = .ok (.bipush (-4), 2) := by decide +kernel
theorem dX11_setLine_13 : decode cX11_setLine 13 = .ok (.iconst 4, 1) := by decide +kernel
theorem dX11_setLine_14 : decode cX11_setLine 14 = .ok (.invokestatic 103, 3) := by decide +kernel
theorem dX11_setLine_17 : decode cX11_setLine 17 = .ok (.ifCond .eq 34, 3) := by decide +kernel
theorem dX11_setLine_20 : decode cX11_setLine 20 = .ok (.iload_n 3, 1) := by decide +kernel
theorem dX11_setLine_21 : decode cX11_setLine 21 = .ok (.iconst 0, 1) := by decide +kernel
theorem dX11_setLine_22 : decode cX11_setLine 22 = .ok (.bipush 40, 2) := by decide +kernel
theorem dX11_setLine_24 : decode cX11_setLine 24 = .ok (.invokestatic 103, 3) := by decide +kernel
theorem dX11_setLine_27 : decode cX11_setLine 27 = .ok (.ifCond .eq 24, 3) := by decide +kernel
theorem dX11_setLine_30 : decode cX11_setLine 30 = .ok (.iload 4, 2) := by decide +kernel
theorem dX11_setLine_32 : decode cX11_setLine 32 = .ok (.iconst 0, 1) := by decide +kernel
theorem dX11_setLine_33 : decode cX11_setLine 33 = .ok (.iconst 3, 1) := by decide +kernel
theorem dX11_setLine_34 : decode cX11_setLine 34 = .ok (.invokestatic 103, 3) := by decide +kernel
theorem dX11_setLine_37 : decode cX11_setLine 37 = .ok (.ifCond .eq 14, 3) := by decide +kernel
theorem dX11_setLine_40 : decode cX11_setLine 40 = .ok (.iload 5, 2) := by decide +kernel
theorem dX11_setLine_42 : decode cX11_setLine 42 = .ok (.iconst 0, 1) := by decide +kernel
theorem dX11_setLine_43 : decode cX11_setLine 43 = .ok (.bipush 9, 2) := by decide +kernel
theorem dX11_setLine_45 : decode cX11_setLine 45 = .ok (.invokestatic 103, 3) := by decide +kernel
theorem dX11_setLine_48 : decode cX11_setLine 48 = .ok (.ifCond .ne 6, 3) := by decide +kernel
theorem dX11_setLine_51 : decode cX11_setLine 51 = .ok (.ldc 119, 2) := by decide +kernel
theorem dX11_setLine_53 : decode cX11_setLine 53 = .ok (.ireturn, 1) := by decide +kernel
theorem dX11_setLine_54 : decode cX11_setLine 54 = .ok (.aload_n 0, 1) := by decide +kernel
theorem dX11_setLine_55 : decode cX11_setLine 55 = .ok (.getfield 19, 3) := by decide +kernel
theorem dX11_setLine_58 : decode cX11_setLine 58 = .ok (.iload_n 1, 1) := by decide +kernel
theorem dX11_setLine_59 : decode cX11_setLine 59 = .ok (.iaload, 1) := by decide +kernel
theorem dX11_setLine_60 : decode cX11_setLine 60 = .ok (.istore 6, 2) := by decide +kernel
theorem dX11_setLine_62 : decode cX11_setLine 62 = .ok (.aload_n 0, 1) := by decide +kernel
theorem dX11_setLine_63 : decode cX11_setLine 63 = .ok (.getfield 19, 3) := by decide +kernel
theorem dX11_setLine_66 : decode cX11_setLine 66 = .ok (.iload_n 1, 1) := by decide +kernel
theorem dX11_setLine_67 : decode cX11_setLine 67 = .ok (.iload_n 2, 1) := by decide +kernel
theorem dX11_setLine_68 : decode cX11_setLine 68 = .ok (.iastore, 1) := by decide +kernel
theorem dX11_setLine_69 : decode cX11_setLine 69 = .ok (.aload_n 0, 1) := by decide +kernel
theorem dX11_setLine_70 : decode cX11_setLine 70 = .ok (.getfield 22, 3) := by decide +kernel
theorem dX11_setLine_73 : decode cX11_setLine 73 = .ok (.iload_n 1, 1) := by decide +kernel
theorem dX11_setLine_74 : decode cX11_setLine 74 = .ok (.iload_n 3, 1) := by decide +kernel
theorem dX11_setLine_75 : decode cX11_setLine 75 = .ok (.iastore, 1) := by decide +kernel
theorem dX11_setLine_76 : decode cX11_setLine 76 = .ok (.aload_n 0, 1) := by decide +kernel
theorem dX11_setLine_77 : decode cX11_setLine 77 = .ok (.getfield 25, 3) := by decide +kernel
theorem dX11_setLine_80 : decode cX11_setLine 80 = .ok (.iload_n 1, 1) := by decide +kernel
theorem dX11_setLine_81 : decode cX11_setLine 81 = .ok (.iload 4, 2) := by decide +kernel
theorem dX11_setLine_83 : decode cX11_setLine 83 = .ok (.iastore, 1) := by decide +kernel
theorem dX11_setLine_84 : decode cX11_setLine 84 = .ok (.aload_n 0, 1) := by decide +kernel
theorem dX11_setLine_85 : decode cX11_setLine 85 = .ok (.getfield 28, 3) := by decide +kernel
theorem dX11_setLine_88 : decode cX11_setLine 88 = .ok (.iload_n 1, 1) := by decide +kernel
theorem dX11_setLine_89 : decode cX11_setLine 89 = .ok (.iload 5, 2) := by decide +kernel
theorem dX11_setLine_91 : decode cX11_setLine 91 = .ok (.iastore, 1) := by decide +kernel
theorem dX11_setLine_92 : decode cX11_setLine 92 = .ok (.aload_n 0, 1) := by decide +kernel
theorem dX11_setLine_93 : decode cX11_setLine 93 = .ok (.getfield 31, 3) := by decide +kernel
theorem dX11_setLine_96 : decode cX11_setLine 96 = .ok (.iload_n 1, 1) := by decide +kernel
theorem dX11_setLine_97 : decode cX11_setLine 97 = .ok (.iconst 0, 1) := by decide +kernel
theorem dX11_setLine_98 : decode cX11_setLine 98 = .ok (.bastore, 1) := by decide +kernel
theorem dX11_setLine_99 : decode cX11_setLine 99 = .ok (.iload 6, 2) := by decide +kernel
theorem dX11_setLine_101 : decode cX11_setLine 101 = .ok (.ireturn, 1) := by decide +kernel
theorem dX11_miss_0 : decode cX11_miss 0 = .ok (.iload_n 1, 1) := by decide +kernel
theorem dX11_miss_1 : decode cX11_miss 1 = .ok (.invokestatic 107, 3) := by decide +kernel
theorem dX11_miss_4 : decode cX11_miss 4 = .ok (.ifCond .eq 6, 3) := by decide +kernel
theorem dX11_miss_7 : decode cX11_miss 7 = .ok (.ldc 115, 2) := by decide +kernel
theorem dX11_miss_9 : decode cX11_miss 9 = .ok (.ireturn, 1) := by decide +kernel
theorem dX11_miss_10 : decode cX11_miss 10 = .ok (.aload_n 0, 1) := by decide +kernel
theorem dX11_miss_11 : decode cX11_miss 11 = .ok (.getfield 31, 3) := by decide +kernel
theorem dX11_miss_14 : decode cX11_miss 14 = .ok (.iload_n 1, 1) := by decide +kernel
theorem dX11_miss_15 : decode cX11_miss 15 = .ok (.baload, 1) := by decide +kernel
theorem dX11_miss_16 : decode cX11_miss 16 = .ok (.ifCond .eq 7, 3) := by decide +kernel
theorem dX11_miss_19 : decode cX11_miss 19 = .ok (.iconst 1, 1) := by decide +kernel
theorem dX11_miss_20 : decode cX11_miss 20 = .ok (.goto 4, 3) := by decide +kernel
theorem dX11_miss_23 : decode cX11_miss 23 = .ok (.iconst 0, 1) := by decide +kernel
theorem dX11_miss_24 : decode cX11_miss 24 = .ok (.istore_n 3, 1) := by decide +kernel
theorem dX11_miss_25 : decode cX11_miss 25 = .ok (.aload_n 0, 1) := by decide +kernel
theorem dX11_miss_26 : decode cX11_miss 26 = .ok (.getfield 31, 3) := by decide +kernel
theorem dX11_miss_29 : decode cX11_miss 29 = .ok (.iload_n 1, 1) := by decide +kernel
theorem dX11_miss_30 : decode cX11_miss 30 = .ok (.iload_n 2, 1) := by decide +kernel
theorem dX11_miss_31 : decode cX11_miss 31 = .ok (.bastore, 1) := by decide +kernel
theorem dX11_miss_32 : decode cX11_miss 32 = .ok (.iload_n 3, 1) := by decide +kernel
theorem dX11_miss_33 : decode cX11_miss 33 = .ok (.ireturn, 1) := by decide +kernel
theorem dX11_setStandard_0 : decode cX11_setStandard 0 = .ok (.iload_n 1, 1) := by decide +kernel
theorem dX11_setStandard_1 : decode cX11_setStandard 1 = .ok (.iconst 0, 1) := by decide +kernel
theorem dX11_setStandard_2 : decode cX11_setStandard 2 = .ok (.iconst 1, 1) := by decide +kernel
theorem dX11_setStandard_3 : decode cX11_setStandard 3 = .ok (.invokestatic 103, 3) := by decide +kernel
theorem dX11_setStandard_6 : decode cX11_setStandard 6 = .ok (.ifCond .ne 6, 3) := by decide +kernel
theorem dX11_setStandard_9 : decode cX11_setStandard 9 = .ok (.ldc 119, 2) := by decide +kernel
theorem dX11_setStandard_11 : decode cX11_setStandard 11 = .ok (.ireturn, 1) := by decide +kernel
theorem dX11_setStandard_12 : decode cX11_setStandard 12 = .ok (.aload_n 0, 1) := by decide +kernel
theorem dX11_setStandard_13 : decode cX11_setStandard 13 = .ok (.getfield 124, 3) := by decide +kernel
theorem dX11_setStandard_16 : decode cX11_setStandard 16 = .ok (.istore_n 2, 1) := by decide +kernel
theorem dX11_setStandard_17 : decode cX11_setStandard 17 = .ok (.aload_n 0, 1) := by decide +kernel
theorem dX11_setStandard_18 : decode cX11_setStandard 18 = .ok (.iload_n 1, 1) := by decide +kernel
theorem dX11_setStandard_19 : decode cX11_setStandard 19 = .ok (.putfield 124, 3) := by decide +kernel
theorem dX11_setStandard_22 : decode cX11_setStandard 22 = .ok (.iload_n 2, 1) := by decide +kernel
theorem dX11_setStandard_23 : decode cX11_setStandard 23 = .ok (.ireturn, 1) := by decide +kernel
theorem dX11_type_0 : decode cX11_type 0 = .ok (.aload_n 0, 1) := by decide +kernel
theorem dX11_type_1 : decode cX11_type 1 = .ok (.getfield 128, 3) := by decide +kernel
theorem dX11_type_4 : decode cX11_type 4 = .ok (.bipush 60, 2) := by decide +kernel
theorem dX11_type_6 : decode cX11_type 6 = .ok (.if_icmp .ne 6, 3) := by decide +kernel
theorem dX11_type_9 : decode cX11_type 9 = .ok (.ldc 131, 2) := by decide +kernel
theorem dX11_type_11 : decode cX11_type 11 = .ok (.ireturn, 1) := by decide +kernel
theorem dX11_type_12 : decode cX11_type 12 = .ok (.aload_n 0, 1) := by decide +kernel
theorem dX11_type_13 : decode cX11_type 13 = .ok (.getfield 38, 3) := by decide +kernel
theorem dX11_type_16 : decode cX11_type 16 = .ok (.aload_n 0, 1) := by decide +kernel
theorem dX11_type_17 : decode cX11_type 17 = .ok (.getfield 128, 3) := by decide +kernel
theorem dX11_type_20 : decode cX11_type 20 = .ok (.iload_n 1, 1) := by decide +kernel
theorem dX11_type_21 : decode cX11_type 21 = .ok (.castore, 1) := by decide +kernel
theorem dX11_type_22 : decode cX11_type 22 = .ok (.aload_n 0, 1) := by decide +kernel
theorem dX11_type_23 : decode cX11_type 23 = .ok (.dup, 1) := by decide +kernel
theorem dX11_type_24 : decode cX11_type 24 = .ok (.getfield 128, 3) := by decide +kernel
theorem dX11_type_27 : decode cX11_type 27 = .ok (.iconst 1, 1) := by decide +kernel
theorem dX11_type_28 : decode cX11_type 28 = .ok (.iadd, 1) := by decide +kernel
theorem dX11_type_29 : decode cX11_type 29 = .ok (.putfield 128, 3) := by decide +kernel
theorem dX11_type_32 : decode cX11_type 32 = .ok (.aload_n 0, 1) := by decide +kernel
theorem dX11_type_33 : decode cX11_type 33 = .ok (.getfield 128, 3) := by decide +kernel
theorem dX11_type_36 : decode cX11_type 36 = .ok (.ireturn, 1) := by decide +kernel
theorem dX11_clearText_0 : decode cX11_clearText 0 = .ok (.aload_n 0, 1) := by decide +kernel
theorem dX11_clearText_1 : decode cX11_clearText 1 = .ok (.getfield 128, 3) := by decide +kernel
theorem dX11_clearText_4 : decode cX11_clearText 4 = .ok (.istore_n 1, 1) := by decide +kernel
theorem dX11_clearText_5 : decode cX11_clearText 5 = .ok (.aload_n 0, 1) := by decide +kernel
theorem dX11_clearText_6 : decode cX11_clearText 6 = .ok (.iconst 0, 1) := by decide +kernel
theorem dX11_clearText_7 : decode cX11_clearText 7 = .ok (.putfield 128, 3) := by decide +kernel
theorem dX11_clearText_10 : decode cX11_clearText 10 = .ok (.iload_n 1, 1) := by decide +kernel
theorem dX11_clearText_11 : decode cX11_clearText 11 = .ok (.ireturn, 1) := by decide +kernel
theorem dX11_barOf_0 : decode cX11_barOf 0 = .ok (.iload_n 0, 1) := by decide +kernel
theorem dX11_barOf_1 : decode cX11_barOf 1 = .ok (.tableswitch 129 98 121 #[123, 115, 129, 129, 129, 117, 129, 129, 129, 126, 129, 119, 129, 129, 129, 129, 121, 129, 129, 129, 129, 111, 129, 113], 111) := by decide +kernel
theorem dX11_barOf_112 : decode cX11_barOf 112 = .ok (.iconst 0, 1) := by decide +kernel
theorem dX11_barOf_113 : decode cX11_barOf 113 = .ok (.ireturn, 1) := by decide +kernel
theorem dX11_barOf_114 : decode cX11_barOf 114 = .ok (.iconst 1, 1) := by decide +kernel
theorem dX11_barOf_115 : decode cX11_barOf 115 = .ok (.ireturn, 1) := by decide +kernel
theorem dX11_barOf_116 : decode cX11_barOf 116 = .ok (.iconst 2, 1) := by decide +kernel
theorem dX11_barOf_117 : decode cX11_barOf 117 = .ok (.ireturn, 1) := by decide +kernel
theorem dX11_barOf_118 : decode cX11_barOf 118 = .ok (.iconst 3, 1) := by decide +kernel
theorem dX11_barOf_119 : decode cX11_barOf 119 = .ok (.ireturn, 1) := by decide +kernel
theorem dX11_barOf_120 : decode cX11_barOf 120 = .ok (.iconst 4, 1) := by decide +kernel
theorem dX11_barOf_121 : decode cX11_barOf 121 = .ok (.ireturn, 1) := by decide +kernel
theorem dX11_barOf_122 : decode cX11_barOf 122 = .ok (.iconst 5, 1) := by decide +kernel
theorem dX11_barOf_123 : decode cX11_barOf 123 = .ok (.ireturn, 1) := by decide +kernel
theorem dX11_barOf_124 : decode cX11_barOf 124 = .ok (.bipush 6, 2) := by decide +kernel
theorem dX11_barOf_126 : decode cX11_barOf 126 = .ok (.ireturn, 1) := by decide +kernel
theorem dX11_barOf_127 : decode cX11_barOf 127 = .ok (.bipush 7, 2) := by decide +kernel
theorem dX11_barOf_129 : decode cX11_barOf 129 = .ok (.ireturn, 1) := by decide +kernel
theorem dX11_barOf_130 : decode cX11_barOf 130 = .ok (.ldc 132, 2) := by decide +kernel
theorem dX11_barOf_132 : decode cX11_barOf 132 = .ok (.ireturn, 1) := by decide +kernel
theorem dX11_putBar_0 : decode cX11_putBar 0 = .ok (.iload_n 2, 1) := by decide +kernel
theorem dX11_putBar_1 : decode cX11_putBar 1 = .ok (.tableswitch 142 0 6 #[43, 56, 71, 86, 100, 114, 128], 43) := by decide +kernel
theorem dX11_putBar_44 : decode cX11_putBar 44 = .ok (.aload_n 0, 1) := by decide +kernel
theorem dX11_putBar_45 : decode cX11_putBar 45 = .ok (.iload_n 1, 1) := by decide +kernel
theorem dX11_putBar_46 : decode cX11_putBar 46 = .ok (.sipush 180, 3) := by decide +kernel
theorem dX11_putBar_49 : decode cX11_putBar 49 = .ok (.iconst 0, 1) := by decide +kernel
theorem dX11_putBar_50 : decode cX11_putBar 50 = .ok (.iconst 0, 1) := by decide +kernel
theorem dX11_putBar_51 : decode cX11_putBar 51 = .ok (.invokevirtual 120, 3) := by decide +kernel
theorem dX11_putBar_54 : decode cX11_putBar 54 = .ok (.goto 98, 3) := by decide +kernel
theorem dX11_putBar_57 : decode cX11_putBar 57 = .ok (.aload_n 0, 1) := by decide +kernel
theorem dX11_putBar_58 : decode cX11_putBar 58 = .ok (.iload_n 1, 1) := by decide +kernel
theorem dX11_putBar_59 : decode cX11_putBar 59 = .ok (.sipush 160, 3) := by decide +kernel
theorem dX11_putBar_62 : decode cX11_putBar 62 = .ok (.bipush (-50), 2) := by decide +kernel
theorem dX11_putBar_64 : decode cX11_putBar 64 = .ok (.bipush 10, 2) := by decide +kernel
theorem dX11_putBar_66 : decode cX11_putBar 66 = .ok (.invokevirtual 120, 3) := by decide +kernel
theorem dX11_putBar_69 : decode cX11_putBar 69 = .ok (.goto 83, 3) := by decide +kernel
theorem dX11_putBar_72 : decode cX11_putBar 72 = .ok (.aload_n 0, 1) := by decide +kernel
theorem dX11_putBar_73 : decode cX11_putBar 73 = .ok (.iload_n 1, 1) := by decide +kernel
theorem dX11_putBar_74 : decode cX11_putBar 74 = .ok (.sipush 140, 3) := by decide +kernel
theorem dX11_putBar_77 : decode cX11_putBar 77 = .ok (.bipush 20, 2) := by decide +kernel
theorem dX11_putBar_79 : decode cX11_putBar 79 = .ok (.bipush (-50), 2) := by decide +kernel
theorem dX11_putBar_81 : decode cX11_putBar 81 = .ok (.invokevirtual 120, 3) := by decide +kernel
theorem dX11_putBar_84 : decode cX11_putBar 84 = .ok (.goto 68, 3) := by decide +kernel
theorem dX11_putBar_87 : decode cX11_putBar 87 = .ok (.aload_n 0, 1) := by decide +kernel
theorem dX11_putBar_88 : decode cX11_putBar 88 = .ok (.iload_n 1, 1) := by decide +kernel
theorem dX11_putBar_89 : decode cX11_putBar 89 = .ok (.bipush 120, 2) := by decide +kernel
theorem dX11_putBar_91 : decode cX11_putBar 91 = .ok (.bipush (-40), 2) := by decide +kernel
theorem dX11_putBar_93 : decode cX11_putBar 93 = .ok (.bipush (-40), 2) := by decide +kernel
theorem dX11_putBar_95 : decode cX11_putBar 95 = .ok (.invokevirtual 120, 3) := by decide +kernel
theorem dX11_putBar_98 : decode cX11_putBar 98 = .ok (.goto 54, 3) := by decide +kernel
theorem dX11_putBar_101 : decode cX11_putBar 101 = .ok (.aload_n 0, 1) := by decide +kernel
theorem dX11_putBar_102 : decode cX11_putBar 102 = .ok (.iload_n 1, 1) := by decide +kernel
theorem dX11_putBar_103 : decode cX11_putBar 103 = .ok (.bipush 80, 2) := by decide +kernel
theorem dX11_putBar_105 : decode cX11_putBar 105 = .ok (.bipush 40, 2) := by decide +kernel
theorem dX11_putBar_107 : decode cX11_putBar 107 = .ok (.bipush 40, 2) := by decide +kernel
theorem dX11_putBar_109 : decode cX11_putBar 109 = .ok (.invokevirtual 120, 3) := by decide +kernel
theorem dX11_putBar_112 : decode cX11_putBar 112 = .ok (.goto 40, 3) := by decide +kernel
theorem dX11_putBar_115 : decode cX11_putBar 115 = .ok (.aload_n 0, 1) := by decide +kernel
theorem dX11_putBar_116 : decode cX11_putBar 116 = .ok (.iload_n 1, 1) := by decide +kernel
theorem dX11_putBar_117 : decode cX11_putBar 117 = .ok (.bipush 60, 2) := by decide +kernel
theorem dX11_putBar_119 : decode cX11_putBar 119 = .ok (.bipush (-20), 2) := by decide +kernel
theorem dX11_putBar_121 : decode cX11_putBar 121 = .ok (.bipush 60, 2) := by decide +kernel
theorem dX11_putBar_123 : decode cX11_putBar 123 = .ok (.invokevirtual 120, 3) := by decide +kernel
theorem dX11_putBar_126 : decode cX11_putBar 126 = .ok (.goto 26, 3) := by decide +kernel
theorem dX11_putBar_129 : decode cX11_putBar 129 = .ok (.aload_n 0, 1) := by decide +kernel
theorem dX11_putBar_130 : decode cX11_putBar 130 = .ok (.iload_n 1, 1) := by decide +kernel
theorem dX11_putBar_131 : decode cX11_putBar 131 = .ok (.bipush 30, 2) := by decide +kernel
theorem dX11_putBar_133 : decode cX11_putBar 133 = .ok (.bipush 60, 2) := by decide +kernel
theorem dX11_putBar_135 : decode cX11_putBar 135 = .ok (.bipush (-10), 2) := by decide +kernel
theorem dX11_putBar_137 : decode cX11_putBar 137 = .ok (.invokevirtual 120, 3) := by decide +kernel
theorem dX11_putBar_140 : decode cX11_putBar 140 = .ok (.goto 12, 3) := by decide +kernel
theorem dX11_putBar_143 : decode cX11_putBar 143 = .ok (.aload_n 0, 1) := by decide +kernel
theorem dX11_putBar_144 : decode cX11_putBar 144 = .ok (.iload_n 1, 1) := by decide +kernel
theorem dX11_putBar_145 : decode cX11_putBar 145 = .ok (.bipush 10, 2) := by decide +kernel
theorem dX11_putBar_147 : decode cX11_putBar 147 = .ok (.iconst 0, 1) := by decide +kernel
theorem dX11_putBar_148 : decode cX11_putBar 148 = .ok (.iconst 0, 1) := by decide +kernel
theorem dX11_putBar_149 : decode cX11_putBar 149 = .ok (.invokevirtual 120, 3) := by decide +kernel
theorem dX11_putBar_152 : decode cX11_putBar 152 = .ok (.return_, 1) := by decide +kernel
theorem dX11_readBars_0 : decode cX11_readBars 0 = .ok (.iload_n 1, 1) := by decide +kernel
theorem dX11_readBars_1 : decode cX11_readBars 1 = .ok (.invokestatic 107, 3) := by decide +kernel
theorem dX11_readBars_4 : decode cX11_readBars 4 = .ok (.ifCond .eq 6, 3) := by decide +kernel
theorem dX11_readBars_7 : decode cX11_readBars 7 = .ok (.ldc 115, 2) := by decide +kernel
theorem dX11_readBars_9 : decode cX11_readBars 9 = .ok (.ireturn, 1) := by decide +kernel
theorem dX11_readBars_10 : decode cX11_readBars 10 = .ok (.iconst 0, 1) := by decide +kernel
theorem dX11_readBars_11 : decode cX11_readBars 11 = .ok (.istore_n 2, 1) := by decide +kernel
theorem dX11_readBars_12 : decode cX11_readBars 12 = .ok (.iconst 0, 1) := by decide +kernel
theorem dX11_readBars_13 : decode cX11_readBars 13 = .ok (.istore_n 3, 1) := by decide +kernel
theorem dX11_readBars_14 : decode cX11_readBars 14 = .ok (.iconst 0, 1) := by decide +kernel
theorem dX11_readBars_15 : decode cX11_readBars 15 = .ok (.istore 4, 2) := by decide +kernel
theorem dX11_readBars_17 : decode cX11_readBars 17 = .ok (.iconst 0, 1) := by decide +kernel
theorem dX11_readBars_18 : decode cX11_readBars 18 = .ok (.istore 5, 2) := by decide +kernel
theorem dX11_readBars_20 : decode cX11_readBars 20 = .ok (.iload 5, 2) := by decide +kernel
theorem dX11_readBars_22 : decode cX11_readBars 22 = .ok (.aload_n 0, 1) := by decide +kernel
theorem dX11_readBars_23 : decode cX11_readBars 23 = .ok (.getfield 128, 3) := by decide +kernel
theorem dX11_readBars_26 : decode cX11_readBars 26 = .ok (.if_icmp .ge 160, 3) := by decide +kernel
theorem dX11_readBars_29 : decode cX11_readBars 29 = .ok (.aload_n 0, 1) := by decide +kernel
theorem dX11_readBars_30 : decode cX11_readBars 30 = .ok (.getfield 38, 3) := by decide +kernel
theorem dX11_readBars_33 : decode cX11_readBars 33 = .ok (.iload 5, 2) := by decide +kernel
theorem dX11_readBars_35 : decode cX11_readBars 35 = .ok (.caload, 1) := by decide +kernel
theorem dX11_readBars_36 : decode cX11_readBars 36 = .ok (.invokestatic 133, 3) := by decide +kernel
theorem dX11_readBars_39 : decode cX11_readBars 39 = .ok (.istore 6, 2) := by decide +kernel
theorem dX11_readBars_41 : decode cX11_readBars 41 = .ok (.aload_n 0, 1) := by decide +kernel
theorem dX11_readBars_42 : decode cX11_readBars 42 = .ok (.getfield 38, 3) := by decide +kernel
theorem dX11_readBars_45 : decode cX11_readBars 45 = .ok (.iload 5, 2) := by decide +kernel
theorem dX11_readBars_47 : decode cX11_readBars 47 = .ok (.caload, 1) := by decide +kernel
theorem dX11_readBars_48 : decode cX11_readBars 48 = .ok (.bipush 49, 2) := by decide +kernel
theorem dX11_readBars_50 : decode cX11_readBars 50 = .ok (.bipush 57, 2) := by decide +kernel
theorem dX11_readBars_52 : decode cX11_readBars 52 = .ok (.invokestatic 103, 3) := by decide +kernel
theorem dX11_readBars_55 : decode cX11_readBars 55 = .ok (.ifCond .eq 21, 3) := by decide +kernel
theorem dX11_readBars_58 : decode cX11_readBars 58 = .ok (.iload 4, 2) := by decide +kernel
theorem dX11_readBars_60 : decode cX11_readBars 60 = .ok (.ifCond .eq 16, 3) := by decide +kernel
theorem dX11_readBars_63 : decode cX11_readBars 63 = .ok (.aload_n 0, 1) := by decide +kernel
theorem dX11_readBars_64 : decode cX11_readBars 64 = .ok (.getfield 38, 3) := by decide +kernel
theorem dX11_readBars_67 : decode cX11_readBars 67 = .ok (.iload 5, 2) := by decide +kernel
theorem dX11_readBars_69 : decode cX11_readBars 69 = .ok (.caload, 1) := by decide +kernel
theorem dX11_readBars_70 : decode cX11_readBars 70 = .ok (.bipush 49, 2) := by decide +kernel
theorem dX11_readBars_72 : decode cX11_readBars 72 = .ok (.isub, 1) := by decide +kernel
theorem dX11_readBars_73 : decode cX11_readBars 73 = .ok (.goto 5, 3) := by decide +kernel
theorem dX11_readBars_76 : decode cX11_readBars 76 = .ok (.ldc 132, 2) := by decide +kernel
theorem dX11_readBars_78 : decode cX11_readBars 78 = .ok (.istore 7, 2) := by decide +kernel
theorem dX11_readBars_80 : decode cX11_readBars 80 = .ok (.iload 6, 2) := by decide +kernel
theorem dX11_readBars_82 : decode cX11_readBars 82 = .ok (.ifCond .ge 8, 3) := by decide +kernel
theorem dX11_readBars_85 : decode cX11_readBars 85 = .ok (.iload 7, 2) := by decide +kernel
theorem dX11_readBars_87 : decode cX11_readBars 87 = .ok (.ifCond .lt 23, 3) := by decide +kernel
theorem dX11_readBars_90 : decode cX11_readBars 90 = .ok (.iload 6, 2) := by decide +kernel
theorem dX11_readBars_92 : decode cX11_readBars 92 = .ok (.ifCond .lt 9, 3) := by decide +kernel
theorem dX11_readBars_95 : decode cX11_readBars 95 = .ok (.iload_n 2, 1) := by decide +kernel
theorem dX11_readBars_96 : decode cX11_readBars 96 = .ok (.bipush 10, 2) := by decide +kernel
theorem dX11_readBars_98 : decode cX11_readBars 98 = .ok (.if_icmp .eq 12, 3) := by decide +kernel
theorem dX11_readBars_101 : decode cX11_readBars 101 = .ok (.iload_n 2, 1) := by decide +kernel
theorem dX11_readBars_102 : decode cX11_readBars 102 = .ok (.iload 7, 2) := by decide +kernel
theorem dX11_readBars_104 : decode cX11_readBars 104 = .ok (.iadd, 1) := by decide +kernel
theorem dX11_readBars_105 : decode cX11_readBars 105 = .ok (.bipush 10, 2) := by decide +kernel
theorem dX11_readBars_107 : decode cX11_readBars 107 = .ok (.if_icmp .le 9, 3) := by decide +kernel
theorem dX11_readBars_110 : decode cX11_readBars 110 = .ok (.bipush (-100), 2) := by decide +kernel
theorem dX11_readBars_112 : decode cX11_readBars 112 = .ok (.iload 5, 2) := by decide +kernel
theorem dX11_readBars_114 : decode cX11_readBars 114 = .ok (.isub, 1) := by decide +kernel
theorem dX11_readBars_115 : decode cX11_readBars 115 = .ok (.ireturn, 1) := by decide +kernel
theorem dX11_readBars_116 : decode cX11_readBars 116 = .ok (.iload 6, 2) := by decide +kernel
theorem dX11_readBars_118 : decode cX11_readBars 118 = .ok (.ifCond .lt 17, 3) := by decide +kernel
theorem dX11_readBars_121 : decode cX11_readBars 121 = .ok (.aload_n 0, 1) := by decide +kernel
theorem dX11_readBars_122 : decode cX11_readBars 122 = .ok (.getfield 42, 3) := by decide +kernel
theorem dX11_readBars_125 : decode cX11_readBars 125 = .ok (.iload_n 2, 1) := by decide +kernel
theorem dX11_readBars_126 : decode cX11_readBars 126 = .ok (.iload 6, 2) := by decide +kernel
theorem dX11_readBars_128 : decode cX11_readBars 128 = .ok (.iastore, 1) := by decide +kernel
theorem dX11_readBars_129 : decode cX11_readBars 129 = .ok (.iinc 2 1, 3) := by decide +kernel
theorem dX11_readBars_132 : decode cX11_readBars 132 = .ok (.iinc 3 1, 3) := by decide +kernel
theorem dX11_readBars_135 : decode cX11_readBars 135 = .ok (.iconst 0, 1) := by decide +kernel
theorem dX11_readBars_136 : decode cX11_readBars 136 = .ok (.istore 8, 2) := by decide +kernel
theorem dX11_readBars_138 : decode cX11_readBars 138 = .ok (.iload 8, 2) := by decide +kernel
theorem dX11_readBars_140 : decode cX11_readBars 140 = .ok (.iload 7, 2) := by decide +kernel
theorem dX11_readBars_142 : decode cX11_readBars 142 = .ok (.if_icmp .ge 26, 3) := by decide +kernel
theorem dX11_readBars_145 : decode cX11_readBars 145 = .ok (.aload_n 0, 1) := by decide +kernel
theorem dX11_readBars_146 : decode cX11_readBars 146 = .ok (.getfield 42, 3) := by decide +kernel
theorem dX11_readBars_149 : decode cX11_readBars 149 = .ok (.iload_n 2, 1) := by decide +kernel
theorem dX11_readBars_150 : decode cX11_readBars 150 = .ok (.aload_n 0, 1) := by decide +kernel
theorem dX11_readBars_151 : decode cX11_readBars 151 = .ok (.getfield 42, 3) := by decide +kernel
theorem dX11_readBars_154 : decode cX11_readBars 154 = .ok (.iload_n 2, 1) := by decide +kernel
theorem dX11_readBars_155 : decode cX11_readBars 155 = .ok (.iconst 1, 1) := by decide +kernel
theorem dX11_readBars_156 : decode cX11_readBars 156 = .ok (.isub, 1) := by decide +kernel
theorem dX11_readBars_157 : decode cX11_readBars 157 = .ok (.iaload, 1) := by decide +kernel
theorem dX11_readBars_158 : decode cX11_readBars 158 = .ok (.iastore, 1) := by decide +kernel
theorem dX11_readBars_159 : decode cX11_readBars 159 = .ok (.iinc 2 1, 3) := by decide +kernel
theorem dX11_readBars_162 : decode cX11_readBars 162 = .ok (.iinc 8 1, 3) := by decide +kernel
theorem dX11_readBars_165 : decode cX11_readBars 165 = .ok (.goto (-27), 3) := by decide +kernel
theorem dX11_readBars_168 : decode cX11_readBars 168 = .ok (.iload 6, 2) := by decide +kernel
theorem dX11_readBars_170 : decode cX11_readBars 170 = .ok (.ifCond .lt 7, 3) := by decide +kernel
theorem dX11_readBars_173 : decode cX11_readBars 173 = .ok (.iconst 1, 1) := by decide +kernel
theorem dX11_readBars_174 : decode cX11_readBars 174 = .ok (.goto 4, 3) := by decide +kernel
theorem dX11_readBars_177 : decode cX11_readBars 177 = .ok (.iconst 0, 1) := by decide +kernel
theorem dX11_readBars_178 : decode cX11_readBars 178 = .ok (.istore 4, 2) := by decide +kernel
theorem dX11_readBars_180 : decode cX11_readBars 180 = .ok (.iinc 5 1, 3) := by decide +kernel
theorem dX11_readBars_183 : decode cX11_readBars 183 = .ok (.goto (-163), 3) := by decide +kernel
theorem dX11_readBars_186 : decode cX11_readBars 186 = .ok (.iload_n 2, 1) := by decide +kernel
theorem dX11_readBars_187 : decode cX11_readBars 187 = .ok (.bipush 10, 2) := by decide +kernel
theorem dX11_readBars_189 : decode cX11_readBars 189 = .ok (.if_icmp .ge 11, 3) := by decide +kernel
theorem dX11_readBars_192 : decode cX11_readBars 192 = .ok (.bipush (-100), 2) := by decide +kernel
theorem dX11_readBars_194 : decode cX11_readBars 194 = .ok (.aload_n 0, 1) := by decide +kernel
theorem dX11_readBars_195 : decode cX11_readBars 195 = .ok (.getfield 128, 3) := by decide +kernel
theorem dX11_readBars_198 : decode cX11_readBars 198 = .ok (.isub, 1) := by decide +kernel
theorem dX11_readBars_199 : decode cX11_readBars 199 = .ok (.ireturn, 1) := by decide +kernel
theorem dX11_readBars_200 : decode cX11_readBars 200 = .ok (.iconst 0, 1) := by decide +kernel
theorem dX11_readBars_201 : decode cX11_readBars 201 = .ok (.istore 5, 2) := by decide +kernel
theorem dX11_readBars_203 : decode cX11_readBars 203 = .ok (.iload 5, 2) := by decide +kernel
theorem dX11_readBars_205 : decode cX11_readBars 205 = .ok (.bipush 10, 2) := by decide +kernel
theorem dX11_readBars_207 : decode cX11_readBars 207 = .ok (.if_icmp .ge 27, 3) := by decide +kernel
theorem dX11_readBars_210 : decode cX11_readBars 210 = .ok (.aload_n 0, 1) := by decide +kernel
theorem dX11_readBars_211 : decode cX11_readBars 211 = .ok (.bipush 10, 2) := by decide +kernel
theorem dX11_readBars_213 : decode cX11_readBars 213 = .ok (.iload_n 1, 1) := by decide +kernel
theorem dX11_readBars_214 : decode cX11_readBars 214 = .ok (.imul, 1) := by decide +kernel
theorem dX11_readBars_215 : decode cX11_readBars 215 = .ok (.iload 5, 2) := by decide +kernel
theorem dX11_readBars_217 : decode cX11_readBars 217 = .ok (.iadd, 1) := by decide +kernel
theorem dX11_readBars_218 : decode cX11_readBars 218 = .ok (.aload_n 0, 1) := by decide +kernel
theorem dX11_readBars_219 : decode cX11_readBars 219 = .ok (.getfield 42, 3) := by decide +kernel
theorem dX11_readBars_222 : decode cX11_readBars 222 = .ok (.iload 5, 2) := by decide +kernel
theorem dX11_readBars_224 : decode cX11_readBars 224 = .ok (.iaload, 1) := by decide +kernel
theorem dX11_readBars_225 : decode cX11_readBars 225 = .ok (.invokevirtual 137, 3) := by decide +kernel
theorem dX11_readBars_228 : decode cX11_readBars 228 = .ok (.iinc 5 1, 3) := by decide +kernel
theorem dX11_readBars_231 : decode cX11_readBars 231 = .ok (.goto (-28), 3) := by decide +kernel
theorem dX11_readBars_234 : decode cX11_readBars 234 = .ok (.iload_n 3, 1) := by decide +kernel
theorem dX11_readBars_235 : decode cX11_readBars 235 = .ok (.ireturn, 1) := by decide +kernel
theorem dX11_signal_0 : decode cX11_signal 0 = .ok (.iload_n 2, 1) := by decide +kernel
theorem dX11_signal_1 : decode cX11_signal 1 = .ok (.iconst 0, 1) := by decide +kernel
theorem dX11_signal_2 : decode cX11_signal 2 = .ok (.bipush 111, 2) := by decide +kernel
theorem dX11_signal_4 : decode cX11_signal 4 = .ok (.invokestatic 103, 3) := by decide +kernel
theorem dX11_signal_7 : decode cX11_signal 7 = .ok (.ifCond .ne 5, 3) := by decide +kernel
theorem dX11_signal_10 : decode cX11_signal 10 = .ok (.iconst 0, 1) := by decide +kernel
theorem dX11_signal_11 : decode cX11_signal 11 = .ok (.ireturn, 1) := by decide +kernel
theorem dX11_signal_12 : decode cX11_signal 12 = .ok (.iload_n 2, 1) := by decide +kernel
theorem dX11_signal_13 : decode cX11_signal 13 = .ok (.iconst 2, 1) := by decide +kernel
theorem dX11_signal_14 : decode cX11_signal 14 = .ok (.iload_n 1, 1) := by decide +kernel
theorem dX11_signal_15 : decode cX11_signal 15 = .ok (.imul, 1) := by decide +kernel
theorem dX11_signal_16 : decode cX11_signal 16 = .ok (.iadd, 1) := by decide +kernel
theorem dX11_signal_17 : decode cX11_signal 17 = .ok (.aload_n 0, 1) := by decide +kernel
theorem dX11_signal_18 : decode cX11_signal 18 = .ok (.getfield 25, 3) := by decide +kernel
theorem dX11_signal_21 : decode cX11_signal 21 = .ok (.iload_n 1, 1) := by decide +kernel
theorem dX11_signal_22 : decode cX11_signal 22 = .ok (.iaload, 1) := by decide +kernel
theorem dX11_signal_23 : decode cX11_signal 23 = .ok (.iadd, 1) := by decide +kernel
theorem dX11_signal_24 : decode cX11_signal 24 = .ok (.invokestatic 141, 3) := by decide +kernel
theorem dX11_signal_27 : decode cX11_signal 27 = .ok (.istore_n 3, 1) := by decide +kernel
theorem dX11_signal_28 : decode cX11_signal 28 = .ok (.aload_n 0, 1) := by decide +kernel
theorem dX11_signal_29 : decode cX11_signal 29 = .ok (.getfield 124, 3) := by decide +kernel
theorem dX11_signal_32 : decode cX11_signal 32 = .ok (.iconst 1, 1) := by decide +kernel
theorem dX11_signal_33 : decode cX11_signal 33 = .ok (.if_icmp .ne 14, 3) := by decide +kernel
theorem dX11_signal_36 : decode cX11_signal 36 = .ok (.iload_n 1, 1) := by decide +kernel
theorem dX11_signal_37 : decode cX11_signal 37 = .ok (.iconst 2, 1) := by decide +kernel
theorem dX11_signal_38 : decode cX11_signal 38 = .ok (.irem, 1) := by decide +kernel
theorem dX11_signal_39 : decode cX11_signal 39 = .ok (.iconst 1, 1) := by decide +kernel
theorem dX11_signal_40 : decode cX11_signal 40 = .ok (.if_icmp .ne 7, 3) := by decide +kernel
theorem dX11_signal_43 : decode cX11_signal 43 = .ok (.iconst (-1), 1) := by decide +kernel
theorem dX11_signal_44 : decode cX11_signal 44 = .ok (.goto 4, 3) := by decide +kernel
theorem dX11_signal_47 : decode cX11_signal 47 = .ok (.iconst 1, 1) := by decide +kernel
theorem dX11_signal_48 : decode cX11_signal 48 = .ok (.istore 4, 2) := by decide +kernel
theorem dX11_signal_50 : decode cX11_signal 50 = .ok (.iload_n 2, 1) := by decide +kernel
theorem dX11_signal_51 : decode cX11_signal 51 = .ok (.bipush 8, 2) := by decide +kernel
theorem dX11_signal_53 : decode cX11_signal 53 = .ok (.isub, 1) := by decide +kernel
theorem dX11_signal_54 : decode cX11_signal 54 = .ok (.aload_n 0, 1) := by decide +kernel
theorem dX11_signal_55 : decode cX11_signal 55 = .ok (.getfield 19, 3) := by decide +kernel
theorem dX11_signal_58 : decode cX11_signal 58 = .ok (.iload_n 1, 1) := by decide +kernel
theorem dX11_signal_59 : decode cX11_signal 59 = .ok (.iaload, 1) := by decide +kernel
theorem dX11_signal_60 : decode cX11_signal 60 = .ok (.isub, 1) := by decide +kernel
theorem dX11_signal_61 : decode cX11_signal 61 = .ok (.istore 5, 2) := by decide +kernel
theorem dX11_signal_63 : decode cX11_signal 63 = .ok (.aload_n 0, 1) := by decide +kernel
theorem dX11_signal_64 : decode cX11_signal 64 = .ok (.getfield 28, 3) := by decide +kernel
theorem dX11_signal_67 : decode cX11_signal 67 = .ok (.iload_n 1, 1) := by decide +kernel
theorem dX11_signal_68 : decode cX11_signal 68 = .ok (.iaload, 1) := by decide +kernel
theorem dX11_signal_69 : decode cX11_signal 69 = .ok (.bipush 7, 2) := by decide +kernel
theorem dX11_signal_71 : decode cX11_signal 71 = .ok (.iload_n 2, 1) := by decide +kernel
theorem dX11_signal_72 : decode cX11_signal 72 = .ok (.imul, 1) := by decide +kernel
theorem dX11_signal_73 : decode cX11_signal 73 = .ok (.bipush 13, 2) := by decide +kernel
theorem dX11_signal_75 : decode cX11_signal 75 = .ok (.iload_n 1, 1) := by decide +kernel
theorem dX11_signal_76 : decode cX11_signal 76 = .ok (.imul, 1) := by decide +kernel
theorem dX11_signal_77 : decode cX11_signal 77 = .ok (.iadd, 1) := by decide +kernel
theorem dX11_signal_78 : decode cX11_signal 78 = .ok (.iconst 5, 1) := by decide +kernel
theorem dX11_signal_79 : decode cX11_signal 79 = .ok (.irem, 1) := by decide +kernel
theorem dX11_signal_80 : decode cX11_signal 80 = .ok (.iconst 2, 1) := by decide +kernel
theorem dX11_signal_81 : decode cX11_signal 81 = .ok (.isub, 1) := by decide +kernel
theorem dX11_signal_82 : decode cX11_signal 82 = .ok (.imul, 1) := by decide +kernel
theorem dX11_signal_83 : decode cX11_signal 83 = .ok (.istore 6, 2) := by decide +kernel
theorem dX11_signal_85 : decode cX11_signal 85 = .ok (.iload 5, 2) := by decide +kernel
theorem dX11_signal_87 : decode cX11_signal 87 = .ok (.iconst 0, 1) := by decide +kernel
theorem dX11_signal_88 : decode cX11_signal 88 = .ok (.bipush 7, 2) := by decide +kernel
theorem dX11_signal_90 : decode cX11_signal 90 = .ok (.invokestatic 103, 3) := by decide +kernel
theorem dX11_signal_93 : decode cX11_signal 93 = .ok (.ifCond .eq 26, 3) := by decide +kernel
theorem dX11_signal_96 : decode cX11_signal 96 = .ok (.iload 6, 2) := by decide +kernel
theorem dX11_signal_98 : decode cX11_signal 98 = .ok (.aload_n 0, 1) := by decide +kernel
theorem dX11_signal_99 : decode cX11_signal 99 = .ok (.getfield 31, 3) := by decide +kernel
theorem dX11_signal_102 : decode cX11_signal 102 = .ok (.iload_n 1, 1) := by decide +kernel
theorem dX11_signal_103 : decode cX11_signal 103 = .ok (.baload, 1) := by decide +kernel
theorem dX11_signal_104 : decode cX11_signal 104 = .ok (.ifCond .eq 7, 3) := by decide +kernel
theorem dX11_signal_107 : decode cX11_signal 107 = .ok (.iconst 0, 1) := by decide +kernel
theorem dX11_signal_108 : decode cX11_signal 108 = .ok (.goto 5, 3) := by decide +kernel
theorem dX11_signal_111 : decode cX11_signal 111 = .ok (.bipush 40, 2) := by decide +kernel
theorem dX11_signal_113 : decode cX11_signal 113 = .ok (.isub, 1) := by decide +kernel
theorem dX11_signal_114 : decode cX11_signal 114 = .ok (.istore 6, 2) := by decide +kernel
theorem dX11_signal_116 : decode cX11_signal 116 = .ok (.goto 130, 3) := by decide +kernel
theorem dX11_signal_119 : decode cX11_signal 119 = .ok (.iload 5, 2) := by decide +kernel
theorem dX11_signal_121 : decode cX11_signal 121 = .ok (.bipush 8, 2) := by decide +kernel
theorem dX11_signal_123 : decode cX11_signal 123 = .ok (.bipush 15, 2) := by decide +kernel
theorem dX11_signal_125 : decode cX11_signal 125 = .ok (.invokestatic 103, 3) := by decide +kernel
theorem dX11_signal_128 : decode cX11_signal 128 = .ok (.ifCond .eq 50, 3) := by decide +kernel
theorem dX11_signal_131 : decode cX11_signal 131 = .ok (.iload 6, 2) := by decide +kernel
theorem dX11_signal_133 : decode cX11_signal 133 = .ok (.aload_n 0, 1) := by decide +kernel
theorem dX11_signal_134 : decode cX11_signal 134 = .ok (.getfield 22, 3) := by decide +kernel
theorem dX11_signal_137 : decode cX11_signal 137 = .ok (.iload_n 1, 1) := by decide +kernel
theorem dX11_signal_138 : decode cX11_signal 138 = .ok (.iaload, 1) := by decide +kernel
theorem dX11_signal_139 : decode cX11_signal 139 = .ok (.ineg, 1) := by decide +kernel
theorem dX11_signal_140 : decode cX11_signal 140 = .ok (.iload_n 3, 1) := by decide +kernel
theorem dX11_signal_141 : decode cX11_signal 141 = .ok (.invokestatic 145, 3) := by decide +kernel
theorem dX11_signal_144 : decode cX11_signal 144 = .ok (.imul, 1) := by decide +kernel
theorem dX11_signal_145 : decode cX11_signal 145 = .ok (.aload_n 0, 1) := by decide +kernel
theorem dX11_signal_146 : decode cX11_signal 146 = .ok (.getfield 124, 3) := by decide +kernel
theorem dX11_signal_149 : decode cX11_signal 149 = .ok (.iconst 1, 1) := by decide +kernel
theorem dX11_signal_150 : decode cX11_signal 150 = .ok (.if_icmp .ne 20, 3) := by decide +kernel
theorem dX11_signal_153 : decode cX11_signal 153 = .ok (.iload 4, 2) := by decide +kernel
theorem dX11_signal_155 : decode cX11_signal 155 = .ok (.aload_n 0, 1) := by decide +kernel
theorem dX11_signal_156 : decode cX11_signal 156 = .ok (.getfield 22, 3) := by decide +kernel
theorem dX11_signal_159 : decode cX11_signal 159 = .ok (.iload_n 1, 1) := by decide +kernel
theorem dX11_signal_160 : decode cX11_signal 160 = .ok (.iaload, 1) := by decide +kernel
theorem dX11_signal_161 : decode cX11_signal 161 = .ok (.imul, 1) := by decide +kernel
theorem dX11_signal_162 : decode cX11_signal 162 = .ok (.iload_n 3, 1) := by decide +kernel
theorem dX11_signal_163 : decode cX11_signal 163 = .ok (.invokestatic 148, 3) := by decide +kernel
theorem dX11_signal_166 : decode cX11_signal 166 = .ok (.imul, 1) := by decide +kernel
theorem dX11_signal_167 : decode cX11_signal 167 = .ok (.goto 4, 3) := by decide +kernel
theorem dX11_signal_170 : decode cX11_signal 170 = .ok (.iconst 0, 1) := by decide +kernel
theorem dX11_signal_171 : decode cX11_signal 171 = .ok (.iadd, 1) := by decide +kernel
theorem dX11_signal_172 : decode cX11_signal 172 = .ok (.iadd, 1) := by decide +kernel
theorem dX11_signal_173 : decode cX11_signal 173 = .ok (.istore 6, 2) := by decide +kernel
theorem dX11_signal_175 : decode cX11_signal 175 = .ok (.goto 71, 3) := by decide +kernel
theorem dX11_signal_178 : decode cX11_signal 178 = .ok (.iload 5, 2) := by decide +kernel
theorem dX11_signal_180 : decode cX11_signal 180 = .ok (.bipush 16, 2) := by decide +kernel
theorem dX11_signal_182 : decode cX11_signal 182 = .ok (.bipush 95, 2) := by decide +kernel
theorem dX11_signal_184 : decode cX11_signal 184 = .ok (.invokestatic 103, 3) := by decide +kernel
theorem dX11_signal_187 : decode cX11_signal 187 = .ok (.ifCond .eq 59, 3) := by decide +kernel
theorem dX11_signal_190 : decode cX11_signal 190 = .ok (.bipush 10, 2) := by decide +kernel
theorem dX11_signal_192 : decode cX11_signal 192 = .ok (.iload_n 1, 1) := by decide +kernel
theorem dX11_signal_193 : decode cX11_signal 193 = .ok (.imul, 1) := by decide +kernel
theorem dX11_signal_194 : decode cX11_signal 194 = .ok (.iload 5, 2) := by decide +kernel
theorem dX11_signal_196 : decode cX11_signal 196 = .ok (.bipush 16, 2) := by decide +kernel
theorem dX11_signal_198 : decode cX11_signal 198 = .ok (.isub, 1) := by decide +kernel
theorem dX11_signal_199 : decode cX11_signal 199 = .ok (.bipush 8, 2) := by decide +kernel
theorem dX11_signal_201 : decode cX11_signal 201 = .ok (.idiv, 1) := by decide +kernel
theorem dX11_signal_202 : decode cX11_signal 202 = .ok (.iadd, 1) := by decide +kernel
theorem dX11_signal_203 : decode cX11_signal 203 = .ok (.istore 7, 2) := by decide +kernel
theorem dX11_signal_205 : decode cX11_signal 205 = .ok (.iload 6, 2) := by decide +kernel
theorem dX11_signal_207 : decode cX11_signal 207 = .ok (.aload_n 0, 1) := by decide +kernel
theorem dX11_signal_208 : decode cX11_signal 208 = .ok (.getfield 7, 3) := by decide +kernel
theorem dX11_signal_211 : decode cX11_signal 211 = .ok (.iload 7, 2) := by decide +kernel
theorem dX11_signal_213 : decode cX11_signal 213 = .ok (.iaload, 1) := by decide +kernel
theorem dX11_signal_214 : decode cX11_signal 214 = .ok (.aload_n 0, 1) := by decide +kernel
theorem dX11_signal_215 : decode cX11_signal 215 = .ok (.getfield 13, 3) := by decide +kernel
theorem dX11_signal_218 : decode cX11_signal 218 = .ok (.iload 7, 2) := by decide +kernel
theorem dX11_signal_220 : decode cX11_signal 220 = .ok (.iaload, 1) := by decide +kernel
theorem dX11_signal_221 : decode cX11_signal 221 = .ok (.iload_n 3, 1) := by decide +kernel
theorem dX11_signal_222 : decode cX11_signal 222 = .ok (.invokestatic 145, 3) := by decide +kernel
theorem dX11_signal_225 : decode cX11_signal 225 = .ok (.imul, 1) := by decide +kernel
theorem dX11_signal_226 : decode cX11_signal 226 = .ok (.iadd, 1) := by decide +kernel
theorem dX11_signal_227 : decode cX11_signal 227 = .ok (.iload 4, 2) := by decide +kernel
theorem dX11_signal_229 : decode cX11_signal 229 = .ok (.aload_n 0, 1) := by decide +kernel
theorem dX11_signal_230 : decode cX11_signal 230 = .ok (.getfield 16, 3) := by decide +kernel
theorem dX11_signal_233 : decode cX11_signal 233 = .ok (.iload 7, 2) := by decide +kernel
theorem dX11_signal_235 : decode cX11_signal 235 = .ok (.iaload, 1) := by decide +kernel
theorem dX11_signal_236 : decode cX11_signal 236 = .ok (.imul, 1) := by decide +kernel
theorem dX11_signal_237 : decode cX11_signal 237 = .ok (.iload_n 3, 1) := by decide +kernel
theorem dX11_signal_238 : decode cX11_signal 238 = .ok (.invokestatic 148, 3) := by decide +kernel
theorem dX11_signal_241 : decode cX11_signal 241 = .ok (.imul, 1) := by decide +kernel
theorem dX11_signal_242 : decode cX11_signal 242 = .ok (.iadd, 1) := by decide +kernel
theorem dX11_signal_243 : decode cX11_signal 243 = .ok (.iadd, 1) := by decide +kernel
theorem dX11_signal_244 : decode cX11_signal 244 = .ok (.istore 6, 2) := by decide +kernel
theorem dX11_signal_246 : decode cX11_signal 246 = .ok (.iload 6, 2) := by decide +kernel
theorem dX11_signal_248 : decode cX11_signal 248 = .ok (.ireturn, 1) := by decide +kernel
theorem dX11_sample_0 : decode cX11_sample 0 = .ok (.iload_n 1, 1) := by decide +kernel
theorem dX11_sample_1 : decode cX11_sample 1 = .ok (.invokestatic 107, 3) := by decide +kernel
theorem dX11_sample_4 : decode cX11_sample 4 = .ok (.ifCond .eq 6, 3) := by decide +kernel
theorem dX11_sample_7 : decode cX11_sample 7 = .ok (.ldc 115, 2) := by decide +kernel
theorem dX11_sample_9 : decode cX11_sample 9 = .ok (.ireturn, 1) := by decide +kernel
theorem dX11_sample_10 : decode cX11_sample 10 = .ok (.iload_n 2, 1) := by decide +kernel
theorem dX11_sample_11 : decode cX11_sample 11 = .ok (.iconst 0, 1) := by decide +kernel
theorem dX11_sample_12 : decode cX11_sample 12 = .ok (.bipush 111, 2) := by decide +kernel
theorem dX11_sample_14 : decode cX11_sample 14 = .ok (.invokestatic 103, 3) := by decide +kernel
theorem dX11_sample_17 : decode cX11_sample 17 = .ok (.ifCond .eq 12, 3) := by decide +kernel
theorem dX11_sample_20 : decode cX11_sample 20 = .ok (.aload_n 0, 1) := by decide +kernel
theorem dX11_sample_21 : decode cX11_sample 21 = .ok (.iload_n 1, 1) := by decide +kernel
theorem dX11_sample_22 : decode cX11_sample 22 = .ok (.iload_n 2, 1) := by decide +kernel
theorem dX11_sample_23 : decode cX11_sample 23 = .ok (.invokevirtual 151, 3) := by decide +kernel
theorem dX11_sample_26 : decode cX11_sample 26 = .ok (.goto 5, 3) := by decide +kernel
theorem dX11_sample_29 : decode cX11_sample 29 = .ok (.ldc 119, 2) := by decide +kernel
theorem dX11_sample_31 : decode cX11_sample 31 = .ok (.ireturn, 1) := by decide +kernel
theorem dX11_set_0 : decode cX11_set 0 = .ok (.iload_n 1, 1) := by decide +kernel
theorem dX11_set_1 : decode cX11_set 1 = .ok (.iconst 0, 1) := by decide +kernel
theorem dX11_set_2 : decode cX11_set 2 = .ok (.iconst 3, 1) := by decide +kernel
theorem dX11_set_3 : decode cX11_set 3 = .ok (.invokestatic 103, 3) := by decide +kernel
theorem dX11_set_6 : decode cX11_set 6 = .ok (.ifCond .ne 6, 3) := by decide +kernel
theorem dX11_set_9 : decode cX11_set 9 = .ok (.ldc 115, 2) := by decide +kernel
theorem dX11_set_11 : decode cX11_set 11 = .ok (.ireturn, 1) := by decide +kernel
theorem dX11_set_12 : decode cX11_set 12 = .ok (.iload_n 1, 1) := by decide +kernel
theorem dX11_set_13 : decode cX11_set 13 = .ok (.ifCond .ne 7, 3) := by decide +kernel
theorem dX11_set_16 : decode cX11_set 16 = .ok (.iconst 1, 1) := by decide +kernel
theorem dX11_set_17 : decode cX11_set 17 = .ok (.goto 4, 3) := by decide +kernel
theorem dX11_set_20 : decode cX11_set 20 = .ok (.iconst 0, 1) := by decide +kernel
theorem dX11_set_21 : decode cX11_set 21 = .ok (.istore_n 3, 1) := by decide +kernel
theorem dX11_set_22 : decode cX11_set 22 = .ok (.iload_n 1, 1) := by decide +kernel
theorem dX11_set_23 : decode cX11_set 23 = .ok (.ifCond .ne 8, 3) := by decide +kernel
theorem dX11_set_26 : decode cX11_set 26 = .ok (.bipush 40, 2) := by decide +kernel
theorem dX11_set_28 : decode cX11_set 28 = .ok (.goto 23, 3) := by decide +kernel
theorem dX11_set_31 : decode cX11_set 31 = .ok (.iload_n 1, 1) := by decide +kernel
theorem dX11_set_32 : decode cX11_set 32 = .ok (.iconst 1, 1) := by decide +kernel
theorem dX11_set_33 : decode cX11_set 33 = .ok (.if_icmp .ne 8, 3) := by decide +kernel
theorem dX11_set_36 : decode cX11_set 36 = .ok (.bipush 100, 2) := by decide +kernel
theorem dX11_set_38 : decode cX11_set 38 = .ok (.goto 13, 3) := by decide +kernel
theorem dX11_set_41 : decode cX11_set 41 = .ok (.iload_n 1, 1) := by decide +kernel
theorem dX11_set_42 : decode cX11_set 42 = .ok (.iconst 2, 1) := by decide +kernel
theorem dX11_set_43 : decode cX11_set 43 = .ok (.if_icmp .ne 7, 3) := by decide +kernel
theorem dX11_set_46 : decode cX11_set 46 = .ok (.iconst 3, 1) := by decide +kernel
theorem dX11_set_47 : decode cX11_set 47 = .ok (.goto 4, 3) := by decide +kernel
theorem dX11_set_50 : decode cX11_set 50 = .ok (.iconst 2, 1) := by decide +kernel
theorem dX11_set_51 : decode cX11_set 51 = .ok (.istore 4, 2) := by decide +kernel
theorem dX11_set_53 : decode cX11_set 53 = .ok (.iload_n 2, 1) := by decide +kernel
theorem dX11_set_54 : decode cX11_set 54 = .ok (.iload_n 3, 1) := by decide +kernel
theorem dX11_set_55 : decode cX11_set 55 = .ok (.iload 4, 2) := by decide +kernel
theorem dX11_set_57 : decode cX11_set 57 = .ok (.invokestatic 103, 3) := by decide +kernel
theorem dX11_set_60 : decode cX11_set 60 = .ok (.ifCond .ne 6, 3) := by decide +kernel
theorem dX11_set_63 : decode cX11_set 63 = .ok (.ldc 119, 2) := by decide +kernel
theorem dX11_set_65 : decode cX11_set 65 = .ok (.ireturn, 1) := by decide +kernel
theorem dX11_set_66 : decode cX11_set 66 = .ok (.aload_n 0, 1) := by decide +kernel
theorem dX11_set_67 : decode cX11_set 67 = .ok (.getfield 35, 3) := by decide +kernel
theorem dX11_set_70 : decode cX11_set 70 = .ok (.iload_n 1, 1) := by decide +kernel
theorem dX11_set_71 : decode cX11_set 71 = .ok (.iaload, 1) := by decide +kernel
theorem dX11_set_72 : decode cX11_set 72 = .ok (.istore 5, 2) := by decide +kernel
theorem dX11_set_74 : decode cX11_set 74 = .ok (.aload_n 0, 1) := by decide +kernel
theorem dX11_set_75 : decode cX11_set 75 = .ok (.getfield 35, 3) := by decide +kernel
theorem dX11_set_78 : decode cX11_set 78 = .ok (.iload_n 1, 1) := by decide +kernel
theorem dX11_set_79 : decode cX11_set 79 = .ok (.iload_n 2, 1) := by decide +kernel
theorem dX11_set_80 : decode cX11_set 80 = .ok (.iastore, 1) := by decide +kernel
theorem dX11_set_81 : decode cX11_set 81 = .ok (.iload 5, 2) := by decide +kernel
theorem dX11_set_83 : decode cX11_set 83 = .ok (.ireturn, 1) := by decide +kernel
theorem dX11_findPulse_0 : decode cX11_findPulse 0 = .ok (.iconst 0, 1) := by decide +kernel
theorem dX11_findPulse_1 : decode cX11_findPulse 1 = .ok (.istore_n 2, 1) := by decide +kernel
theorem dX11_findPulse_2 : decode cX11_findPulse 2 = .ok (.iload_n 2, 1) := by decide +kernel
theorem dX11_findPulse_3 : decode cX11_findPulse 3 = .ok (.bipush 20, 2) := by decide +kernel
theorem dX11_findPulse_5 : decode cX11_findPulse 5 = .ok (.if_icmp .gt 56, 3) := by decide +kernel
theorem dX11_findPulse_8 : decode cX11_findPulse 8 = .ok (.iconst 1, 1) := by decide +kernel
theorem dX11_findPulse_9 : decode cX11_findPulse 9 = .ok (.istore_n 3, 1) := by decide +kernel
theorem dX11_findPulse_10 : decode cX11_findPulse 10 = .ok (.iload_n 2, 1) := by decide +kernel
theorem dX11_findPulse_11 : decode cX11_findPulse 11 = .ok (.istore 4, 2) := by decide +kernel
theorem dX11_findPulse_13 : decode cX11_findPulse 13 = .ok (.iload 4, 2) := by decide +kernel
theorem dX11_findPulse_15 : decode cX11_findPulse 15 = .ok (.iload_n 2, 1) := by decide +kernel
theorem dX11_findPulse_16 : decode cX11_findPulse 16 = .ok (.iconst 4, 1) := by decide +kernel
theorem dX11_findPulse_17 : decode cX11_findPulse 17 = .ok (.iadd, 1) := by decide +kernel
theorem dX11_findPulse_18 : decode cX11_findPulse 18 = .ok (.if_icmp .ge 31, 3) := by decide +kernel
theorem dX11_findPulse_21 : decode cX11_findPulse 21 = .ok (.iload_n 3, 1) := by decide +kernel
theorem dX11_findPulse_22 : decode cX11_findPulse 22 = .ok (.ifCond .eq 19, 3) := by decide +kernel
theorem dX11_findPulse_25 : decode cX11_findPulse 25 = .ok (.aload_n 0, 1) := by decide +kernel
theorem dX11_findPulse_26 : decode cX11_findPulse 26 = .ok (.iload_n 1, 1) := by decide +kernel
theorem dX11_findPulse_27 : decode cX11_findPulse 27 = .ok (.iload 4, 2) := by decide +kernel
theorem dX11_findPulse_29 : decode cX11_findPulse 29 = .ok (.invokevirtual 151, 3) := by decide +kernel
theorem dX11_findPulse_32 : decode cX11_findPulse 32 = .ok (.bipush (-20), 2) := by decide +kernel
theorem dX11_findPulse_34 : decode cX11_findPulse 34 = .ok (.if_icmp .gt 7, 3) := by decide +kernel
theorem dX11_findPulse_37 : decode cX11_findPulse 37 = .ok (.iconst 1, 1) := by decide +kernel
theorem dX11_findPulse_38 : decode cX11_findPulse 38 = .ok (.goto 4, 3) := by decide +kernel
theorem dX11_findPulse_41 : decode cX11_findPulse 41 = .ok (.iconst 0, 1) := by decide +kernel
theorem dX11_findPulse_42 : decode cX11_findPulse 42 = .ok (.istore_n 3, 1) := by decide +kernel
theorem dX11_findPulse_43 : decode cX11_findPulse 43 = .ok (.iinc 4 1, 3) := by decide +kernel
theorem dX11_findPulse_46 : decode cX11_findPulse 46 = .ok (.goto (-33), 3) := by decide +kernel
theorem dX11_findPulse_49 : decode cX11_findPulse 49 = .ok (.iload_n 3, 1) := by decide +kernel
theorem dX11_findPulse_50 : decode cX11_findPulse 50 = .ok (.ifCond .eq 5, 3) := by decide +kernel
theorem dX11_findPulse_53 : decode cX11_findPulse 53 = .ok (.iload_n 2, 1) := by decide +kernel
theorem dX11_findPulse_54 : decode cX11_findPulse 54 = .ok (.ireturn, 1) := by decide +kernel
theorem dX11_findPulse_55 : decode cX11_findPulse 55 = .ok (.iinc 2 1, 3) := by decide +kernel
theorem dX11_findPulse_58 : decode cX11_findPulse 58 = .ok (.goto (-56), 3) := by decide +kernel
theorem dX11_findPulse_61 : decode cX11_findPulse 61 = .ok (.ldc 132, 2) := by decide +kernel
theorem dX11_findPulse_63 : decode cX11_findPulse 63 = .ok (.ireturn, 1) := by decide +kernel
theorem dX11_findPulses_0 : decode cX11_findPulses 0 = .ok (.bipush 32, 2) := by decide +kernel
theorem dX11_findPulses_2 : decode cX11_findPulses 2 = .ok (.istore_n 1, 1) := by decide +kernel
theorem dX11_findPulses_3 : decode cX11_findPulses 3 = .ok (.iconst 0, 1) := by decide +kernel
theorem dX11_findPulses_4 : decode cX11_findPulses 4 = .ok (.istore_n 2, 1) := by decide +kernel
theorem dX11_findPulses_5 : decode cX11_findPulses 5 = .ok (.iconst 0, 1) := by decide +kernel
theorem dX11_findPulses_6 : decode cX11_findPulses 6 = .ok (.istore_n 3, 1) := by decide +kernel
theorem dX11_findPulses_7 : decode cX11_findPulses 7 = .ok (.iconst 0, 1) := by decide +kernel
theorem dX11_findPulses_8 : decode cX11_findPulses 8 = .ok (.istore 4, 2) := by decide +kernel
theorem dX11_findPulses_10 : decode cX11_findPulses 10 = .ok (.iconst 0, 1) := by decide +kernel
theorem dX11_findPulses_11 : decode cX11_findPulses 11 = .ok (.istore 5, 2) := by decide +kernel
theorem dX11_findPulses_13 : decode cX11_findPulses 13 = .ok (.iconst 0, 1) := by decide +kernel
theorem dX11_findPulses_14 : decode cX11_findPulses 14 = .ok (.istore 6, 2) := by decide +kernel
theorem dX11_findPulses_16 : decode cX11_findPulses 16 = .ok (.iload 6, 2) := by decide +kernel
theorem dX11_findPulses_18 : decode cX11_findPulses 18 = .ok (.bipush 8, 2) := by decide +kernel
theorem dX11_findPulses_20 : decode cX11_findPulses 20 = .ok (.if_icmp .ge 185, 3) := by decide +kernel
theorem dX11_findPulses_23 : decode cX11_findPulses 23 = .ok (.aload_n 0, 1) := by decide +kernel
theorem dX11_findPulses_24 : decode cX11_findPulses 24 = .ok (.iload 6, 2) := by decide +kernel
theorem dX11_findPulses_26 : decode cX11_findPulses 26 = .ok (.invokevirtual 154, 3) := by decide +kernel
theorem dX11_findPulses_29 : decode cX11_findPulses 29 = .ok (.istore 7, 2) := by decide +kernel
theorem dX11_findPulses_31 : decode cX11_findPulses 31 = .ok (.iconst 4, 1) := by decide +kernel
theorem dX11_findPulses_32 : decode cX11_findPulses 32 = .ok (.iload 7, 2) := by decide +kernel
theorem dX11_findPulses_34 : decode cX11_findPulses 34 = .ok (.imul, 1) := by decide +kernel
theorem dX11_findPulses_35 : decode cX11_findPulses 35 = .ok (.iload_n 1, 1) := by decide +kernel
theorem dX11_findPulses_36 : decode cX11_findPulses 36 = .ok (.isub, 1) := by decide +kernel
theorem dX11_findPulses_37 : decode cX11_findPulses 37 = .ok (.istore 8, 2) := by decide +kernel
theorem dX11_findPulses_39 : decode cX11_findPulses 39 = .ok (.iload 7, 2) := by decide +kernel
theorem dX11_findPulses_41 : decode cX11_findPulses 41 = .ok (.ifCond .lt 30, 3) := by decide +kernel
theorem dX11_findPulses_44 : decode cX11_findPulses 44 = .ok (.iload 8, 2) := by decide +kernel
theorem dX11_findPulses_46 : decode cX11_findPulses 46 = .ok (.bipush (-12), 2) := by decide +kernel
theorem dX11_findPulses_48 : decode cX11_findPulses 48 = .ok (.bipush 12, 2) := by decide +kernel
theorem dX11_findPulses_50 : decode cX11_findPulses 50 = .ok (.invokestatic 103, 3) := by decide +kernel
theorem dX11_findPulses_53 : decode cX11_findPulses 53 = .ok (.ifCond .eq 18, 3) := by decide +kernel
theorem dX11_findPulses_56 : decode cX11_findPulses 56 = .ok (.iload_n 1, 1) := by decide +kernel
theorem dX11_findPulses_57 : decode cX11_findPulses 57 = .ok (.iload 8, 2) := by decide +kernel
theorem dX11_findPulses_59 : decode cX11_findPulses 59 = .ok (.iconst 2, 1) := by decide +kernel
theorem dX11_findPulses_60 : decode cX11_findPulses 60 = .ok (.idiv, 1) := by decide +kernel
theorem dX11_findPulses_61 : decode cX11_findPulses 61 = .ok (.iadd, 1) := by decide +kernel
theorem dX11_findPulses_62 : decode cX11_findPulses 62 = .ok (.istore_n 1, 1) := by decide +kernel
theorem dX11_findPulses_63 : decode cX11_findPulses 63 = .ok (.iinc 2 1, 3) := by decide +kernel
theorem dX11_findPulses_66 : decode cX11_findPulses 66 = .ok (.iconst 0, 1) := by decide +kernel
theorem dX11_findPulses_67 : decode cX11_findPulses 67 = .ok (.istore_n 3, 1) := by decide +kernel
theorem dX11_findPulses_68 : decode cX11_findPulses 68 = .ok (.goto 27, 3) := by decide +kernel
theorem dX11_findPulses_71 : decode cX11_findPulses 71 = .ok (.iinc 3 1, 3) := by decide +kernel
theorem dX11_findPulses_74 : decode cX11_findPulses 74 = .ok (.iconst 0, 1) := by decide +kernel
theorem dX11_findPulses_75 : decode cX11_findPulses 75 = .ok (.istore_n 2, 1) := by decide +kernel
theorem dX11_findPulses_76 : decode cX11_findPulses 76 = .ok (.iload 7, 2) := by decide +kernel
theorem dX11_findPulses_78 : decode cX11_findPulses 78 = .ok (.ifCond .lt 15, 3) := by decide +kernel
theorem dX11_findPulses_81 : decode cX11_findPulses 81 = .ok (.iload 4, 2) := by decide +kernel
theorem dX11_findPulses_83 : decode cX11_findPulses 83 = .ok (.ifCond .ne 10, 3) := by decide +kernel
theorem dX11_findPulses_86 : decode cX11_findPulses 86 = .ok (.iconst 4, 1) := by decide +kernel
theorem dX11_findPulses_87 : decode cX11_findPulses 87 = .ok (.iload 7, 2) := by decide +kernel
theorem dX11_findPulses_89 : decode cX11_findPulses 89 = .ok (.imul, 1) := by decide +kernel
theorem dX11_findPulses_90 : decode cX11_findPulses 90 = .ok (.goto 4, 3) := by decide +kernel
theorem dX11_findPulses_93 : decode cX11_findPulses 93 = .ok (.iload_n 1, 1) := by decide +kernel
theorem dX11_findPulses_94 : decode cX11_findPulses 94 = .ok (.istore_n 1, 1) := by decide +kernel
theorem dX11_findPulses_95 : decode cX11_findPulses 95 = .ok (.iload_n 2, 1) := by decide +kernel
theorem dX11_findPulses_96 : decode cX11_findPulses 96 = .ok (.iconst 2, 1) := by decide +kernel
theorem dX11_findPulses_97 : decode cX11_findPulses 97 = .ok (.if_icmp .ge 8, 3) := by decide +kernel
theorem dX11_findPulses_100 : decode cX11_findPulses 100 = .ok (.iload 4, 2) := by decide +kernel
theorem dX11_findPulses_102 : decode cX11_findPulses 102 = .ok (.ifCond .eq 7, 3) := by decide +kernel
theorem dX11_findPulses_105 : decode cX11_findPulses 105 = .ok (.iconst 1, 1) := by decide +kernel
theorem dX11_findPulses_106 : decode cX11_findPulses 106 = .ok (.goto 4, 3) := by decide +kernel
theorem dX11_findPulses_109 : decode cX11_findPulses 109 = .ok (.iconst 0, 1) := by decide +kernel
theorem dX11_findPulses_110 : decode cX11_findPulses 110 = .ok (.istore 4, 2) := by decide +kernel
theorem dX11_findPulses_112 : decode cX11_findPulses 112 = .ok (.iload_n 3, 1) := by decide +kernel
theorem dX11_findPulses_113 : decode cX11_findPulses 113 = .ok (.iconst 4, 1) := by decide +kernel
theorem dX11_findPulses_114 : decode cX11_findPulses 114 = .ok (.if_icmp .ge 12, 3) := by decide +kernel
theorem dX11_findPulses_117 : decode cX11_findPulses 117 = .ok (.iload 4, 2) := by decide +kernel
theorem dX11_findPulses_119 : decode cX11_findPulses 119 = .ok (.ifCond .eq 7, 3) := by decide +kernel
theorem dX11_findPulses_122 : decode cX11_findPulses 122 = .ok (.iconst 1, 1) := by decide +kernel
theorem dX11_findPulses_123 : decode cX11_findPulses 123 = .ok (.goto 4, 3) := by decide +kernel
theorem dX11_findPulses_126 : decode cX11_findPulses 126 = .ok (.iconst 0, 1) := by decide +kernel
theorem dX11_findPulses_127 : decode cX11_findPulses 127 = .ok (.istore 4, 2) := by decide +kernel
theorem dX11_findPulses_129 : decode cX11_findPulses 129 = .ok (.aload_n 0, 1) := by decide +kernel
theorem dX11_findPulses_130 : decode cX11_findPulses 130 = .ok (.getfield 45, 3) := by decide +kernel
theorem dX11_findPulses_133 : decode cX11_findPulses 133 = .ok (.iload 6, 2) := by decide +kernel
theorem dX11_findPulses_135 : decode cX11_findPulses 135 = .ok (.iload 7, 2) := by decide +kernel
theorem dX11_findPulses_137 : decode cX11_findPulses 137 = .ok (.iastore, 1) := by decide +kernel
theorem dX11_findPulses_138 : decode cX11_findPulses 138 = .ok (.aload_n 0, 1) := by decide +kernel
theorem dX11_findPulses_139 : decode cX11_findPulses 139 = .ok (.getfield 48, 3) := by decide +kernel
theorem dX11_findPulses_142 : decode cX11_findPulses 142 = .ok (.iload 6, 2) := by decide +kernel
theorem dX11_findPulses_144 : decode cX11_findPulses 144 = .ok (.iload 4, 2) := by decide +kernel
theorem dX11_findPulses_146 : decode cX11_findPulses 146 = .ok (.ifCond .ne 8, 3) := by decide +kernel
theorem dX11_findPulses_149 : decode cX11_findPulses 149 = .ok (.iload 7, 2) := by decide +kernel
theorem dX11_findPulses_151 : decode cX11_findPulses 151 = .ok (.ifCond .ge 13, 3) := by decide +kernel
theorem dX11_findPulses_154 : decode cX11_findPulses 154 = .ok (.iload_n 1, 1) := by decide +kernel
theorem dX11_findPulses_155 : decode cX11_findPulses 155 = .ok (.iconst 2, 1) := by decide +kernel
theorem dX11_findPulses_156 : decode cX11_findPulses 156 = .ok (.iadd, 1) := by decide +kernel
theorem dX11_findPulses_157 : decode cX11_findPulses 157 = .ok (.iconst 4, 1) := by decide +kernel
theorem dX11_findPulses_158 : decode cX11_findPulses 158 = .ok (.invokestatic 157, 3) := by decide +kernel
theorem dX11_findPulses_161 : decode cX11_findPulses 161 = .ok (.goto 5, 3) := by decide +kernel
theorem dX11_findPulses_164 : decode cX11_findPulses 164 = .ok (.iload 7, 2) := by decide +kernel
theorem dX11_findPulses_166 : decode cX11_findPulses 166 = .ok (.iastore, 1) := by decide +kernel
theorem dX11_findPulses_167 : decode cX11_findPulses 167 = .ok (.aload_n 0, 1) := by decide +kernel
theorem dX11_findPulses_168 : decode cX11_findPulses 168 = .ok (.getfield 51, 3) := by decide +kernel
theorem dX11_findPulses_171 : decode cX11_findPulses 171 = .ok (.iload 6, 2) := by decide +kernel
theorem dX11_findPulses_173 : decode cX11_findPulses 173 = .ok (.iload 4, 2) := by decide +kernel
theorem dX11_findPulses_175 : decode cX11_findPulses 175 = .ok (.bastore, 1) := by decide +kernel
theorem dX11_findPulses_176 : decode cX11_findPulses 176 = .ok (.aload_n 0, 1) := by decide +kernel
theorem dX11_findPulses_177 : decode cX11_findPulses 177 = .ok (.getfield 54, 3) := by decide +kernel
theorem dX11_findPulses_180 : decode cX11_findPulses 180 = .ok (.iload 6, 2) := by decide +kernel
theorem dX11_findPulses_182 : decode cX11_findPulses 182 = .ok (.iload_n 1, 1) := by decide +kernel
theorem dX11_findPulses_183 : decode cX11_findPulses 183 = .ok (.iastore, 1) := by decide +kernel
theorem dX11_findPulses_184 : decode cX11_findPulses 184 = .ok (.iload 5, 2) := by decide +kernel
theorem dX11_findPulses_186 : decode cX11_findPulses 186 = .ok (.iload 4, 2) := by decide +kernel
theorem dX11_findPulses_188 : decode cX11_findPulses 188 = .ok (.ifCond .eq 7, 3) := by decide +kernel
theorem dX11_findPulses_191 : decode cX11_findPulses 191 = .ok (.iconst 1, 1) := by decide +kernel
theorem dX11_findPulses_192 : decode cX11_findPulses 192 = .ok (.goto 4, 3) := by decide +kernel
theorem dX11_findPulses_195 : decode cX11_findPulses 195 = .ok (.iconst 0, 1) := by decide +kernel
theorem dX11_findPulses_196 : decode cX11_findPulses 196 = .ok (.iadd, 1) := by decide +kernel
theorem dX11_findPulses_197 : decode cX11_findPulses 197 = .ok (.istore 5, 2) := by decide +kernel
theorem dX11_findPulses_199 : decode cX11_findPulses 199 = .ok (.iinc 6 1, 3) := by decide +kernel
theorem dX11_findPulses_202 : decode cX11_findPulses 202 = .ok (.goto (-186), 3) := by decide +kernel
theorem dX11_findPulses_205 : decode cX11_findPulses 205 = .ok (.iload 5, 2) := by decide +kernel
theorem dX11_findPulses_207 : decode cX11_findPulses 207 = .ok (.ireturn, 1) := by decide +kernel
theorem dX11_findBursts_0 : decode cX11_findBursts 0 = .ok (.iconst 0, 1) := by decide +kernel
theorem dX11_findBursts_1 : decode cX11_findBursts 1 = .ok (.istore_n 1, 1) := by decide +kernel
theorem dX11_findBursts_2 : decode cX11_findBursts 2 = .ok (.iconst 0, 1) := by decide +kernel
theorem dX11_findBursts_3 : decode cX11_findBursts 3 = .ok (.istore_n 2, 1) := by decide +kernel
theorem dX11_findBursts_4 : decode cX11_findBursts 4 = .ok (.iconst 1, 1) := by decide +kernel
theorem dX11_findBursts_5 : decode cX11_findBursts 5 = .ok (.istore_n 3, 1) := by decide +kernel
theorem dX11_findBursts_6 : decode cX11_findBursts 6 = .ok (.iconst 0, 1) := by decide +kernel
theorem dX11_findBursts_7 : decode cX11_findBursts 7 = .ok (.istore 4, 2) := by decide +kernel
theorem dX11_findBursts_9 : decode cX11_findBursts 9 = .ok (.iload 4, 2) := by decide +kernel
theorem dX11_findBursts_11 : decode cX11_findBursts 11 = .ok (.bipush 8, 2) := by decide +kernel
theorem dX11_findBursts_13 : decode cX11_findBursts 13 = .ok (.if_icmp .ge 234, 3) := by decide +kernel
theorem dX11_findBursts_16 : decode cX11_findBursts 16 = .ok (.aload_n 0, 1) := by decide +kernel
theorem dX11_findBursts_17 : decode cX11_findBursts 17 = .ok (.getfield 57, 3) := by decide +kernel
theorem dX11_findBursts_20 : decode cX11_findBursts 20 = .ok (.iload 4, 2) := by decide +kernel
theorem dX11_findBursts_22 : decode cX11_findBursts 22 = .ok (.iconst 0, 1) := by decide +kernel
theorem dX11_findBursts_23 : decode cX11_findBursts 23 = .ok (.iastore, 1) := by decide +kernel
theorem dX11_findBursts_24 : decode cX11_findBursts 24 = .ok (.aload_n 0, 1) := by decide +kernel
theorem dX11_findBursts_25 : decode cX11_findBursts 25 = .ok (.getfield 60, 3) := by decide +kernel
theorem dX11_findBursts_28 : decode cX11_findBursts 28 = .ok (.iload 4, 2) := by decide +kernel
theorem dX11_findBursts_30 : decode cX11_findBursts 30 = .ok (.iconst 0, 1) := by decide +kernel
theorem dX11_findBursts_31 : decode cX11_findBursts 31 = .ok (.iastore, 1) := by decide +kernel
theorem dX11_findBursts_32 : decode cX11_findBursts 32 = .ok (.aload_n 0, 1) := by decide +kernel
theorem dX11_findBursts_33 : decode cX11_findBursts 33 = .ok (.getfield 48, 3) := by decide +kernel
theorem dX11_findBursts_36 : decode cX11_findBursts 36 = .ok (.iload 4, 2) := by decide +kernel
theorem dX11_findBursts_38 : decode cX11_findBursts 38 = .ok (.iaload, 1) := by decide +kernel
theorem dX11_findBursts_39 : decode cX11_findBursts 39 = .ok (.bipush 8, 2) := by decide +kernel
theorem dX11_findBursts_41 : decode cX11_findBursts 41 = .ok (.iadd, 1) := by decide +kernel
theorem dX11_findBursts_42 : decode cX11_findBursts 42 = .ok (.istore 5, 2) := by decide +kernel
theorem dX11_findBursts_44 : decode cX11_findBursts 44 = .ok (.iload 5, 2) := by decide +kernel
theorem dX11_findBursts_46 : decode cX11_findBursts 46 = .ok (.aload_n 0, 1) := by decide +kernel
theorem dX11_findBursts_47 : decode cX11_findBursts 47 = .ok (.getfield 48, 3) := by decide +kernel
theorem dX11_findBursts_50 : decode cX11_findBursts 50 = .ok (.iload 4, 2) := by decide +kernel
theorem dX11_findBursts_52 : decode cX11_findBursts 52 = .ok (.iaload, 1) := by decide +kernel
theorem dX11_findBursts_53 : decode cX11_findBursts 53 = .ok (.bipush 16, 2) := by decide +kernel
theorem dX11_findBursts_55 : decode cX11_findBursts 55 = .ok (.iadd, 1) := by decide +kernel
theorem dX11_findBursts_56 : decode cX11_findBursts 56 = .ok (.if_icmp .ge 73, 3) := by decide +kernel
theorem dX11_findBursts_59 : decode cX11_findBursts 59 = .ok (.aload_n 0, 1) := by decide +kernel
theorem dX11_findBursts_60 : decode cX11_findBursts 60 = .ok (.getfield 57, 3) := by decide +kernel
theorem dX11_findBursts_63 : decode cX11_findBursts 63 = .ok (.iload 4, 2) := by decide +kernel
theorem dX11_findBursts_65 : decode cX11_findBursts 65 = .ok (.dup2, 1) := by decide +kernel
theorem dX11_findBursts_66 : decode cX11_findBursts 66 = .ok (.iaload, 1) := by decide +kernel
theorem dX11_findBursts_67 : decode cX11_findBursts 67 = .ok (.aload_n 0, 1) := by decide +kernel
theorem dX11_findBursts_68 : decode cX11_findBursts 68 = .ok (.iload 4, 2) := by decide +kernel
theorem dX11_findBursts_70 : decode cX11_findBursts 70 = .ok (.iload 5, 2) := by decide +kernel
theorem dX11_findBursts_72 : decode cX11_findBursts 72 = .ok (.invokevirtual 151, 3) := by decide +kernel
theorem dX11_findBursts_75 : decode cX11_findBursts 75 = .ok (.iload 5, 2) := by decide +kernel
theorem dX11_findBursts_77 : decode cX11_findBursts 77 = .ok (.iconst 2, 1) := by decide +kernel
theorem dX11_findBursts_78 : decode cX11_findBursts 78 = .ok (.iload 4, 2) := by decide +kernel
theorem dX11_findBursts_80 : decode cX11_findBursts 80 = .ok (.imul, 1) := by decide +kernel
theorem dX11_findBursts_81 : decode cX11_findBursts 81 = .ok (.iadd, 1) := by decide +kernel
theorem dX11_findBursts_82 : decode cX11_findBursts 82 = .ok (.invokestatic 141, 3) := by decide +kernel
theorem dX11_findBursts_85 : decode cX11_findBursts 85 = .ok (.invokestatic 145, 3) := by decide +kernel
theorem dX11_findBursts_88 : decode cX11_findBursts 88 = .ok (.imul, 1) := by decide +kernel
theorem dX11_findBursts_89 : decode cX11_findBursts 89 = .ok (.iadd, 1) := by decide +kernel
theorem dX11_findBursts_90 : decode cX11_findBursts 90 = .ok (.iastore, 1) := by decide +kernel
theorem dX11_findBursts_91 : decode cX11_findBursts 91 = .ok (.aload_n 0, 1) := by decide +kernel
theorem dX11_findBursts_92 : decode cX11_findBursts 92 = .ok (.getfield 60, 3) := by decide +kernel
theorem dX11_findBursts_95 : decode cX11_findBursts 95 = .ok (.iload 4, 2) := by decide +kernel
theorem dX11_findBursts_97 : decode cX11_findBursts 97 = .ok (.dup2, 1) := by decide +kernel
theorem dX11_findBursts_98 : decode cX11_findBursts 98 = .ok (.iaload, 1) := by decide +kernel
theorem dX11_findBursts_99 : decode cX11_findBursts 99 = .ok (.aload_n 0, 1) := by decide +kernel
theorem dX11_findBursts_100 : decode cX11_findBursts 100 = .ok (.iload 4, 2) := by decide +kernel
theorem dX11_findBursts_102 : decode cX11_findBursts 102 = .ok (.iload 5, 2) := by decide +kernel
theorem dX11_findBursts_104 : decode cX11_findBursts 104 = .ok (.invokevirtual 151, 3) := by decide +kernel
theorem dX11_findBursts_107 : decode cX11_findBursts 107 = .ok (.iload 5, 2) := by decide +kernel
theorem dX11_findBursts_109 : decode cX11_findBursts 109 = .ok (.iconst 2, 1) := by decide +kernel
theorem dX11_findBursts_110 : decode cX11_findBursts 110 = .ok (.iload 4, 2) := by decide +kernel
theorem dX11_findBursts_112 : decode cX11_findBursts 112 = .ok (.imul, 1) := by decide +kernel
theorem dX11_findBursts_113 : decode cX11_findBursts 113 = .ok (.iadd, 1) := by decide +kernel
theorem dX11_findBursts_114 : decode cX11_findBursts 114 = .ok (.invokestatic 141, 3) := by decide +kernel
theorem dX11_findBursts_117 : decode cX11_findBursts 117 = .ok (.invokestatic 148, 3) := by decide +kernel
theorem dX11_findBursts_120 : decode cX11_findBursts 120 = .ok (.imul, 1) := by decide +kernel
theorem dX11_findBursts_121 : decode cX11_findBursts 121 = .ok (.iadd, 1) := by decide +kernel
theorem dX11_findBursts_122 : decode cX11_findBursts 122 = .ok (.iastore, 1) := by decide +kernel
theorem dX11_findBursts_123 : decode cX11_findBursts 123 = .ok (.iinc 5 1, 3) := by decide +kernel
theorem dX11_findBursts_126 : decode cX11_findBursts 126 = .ok (.goto (-82), 3) := by decide +kernel
theorem dX11_findBursts_129 : decode cX11_findBursts 129 = .ok (.aload_n 0, 1) := by decide +kernel
theorem dX11_findBursts_130 : decode cX11_findBursts 130 = .ok (.getfield 63, 3) := by decide +kernel
theorem dX11_findBursts_133 : decode cX11_findBursts 133 = .ok (.iload 4, 2) := by decide +kernel
theorem dX11_findBursts_135 : decode cX11_findBursts 135 = .ok (.aload_n 0, 1) := by decide +kernel
theorem dX11_findBursts_136 : decode cX11_findBursts 136 = .ok (.getfield 57, 3) := by decide +kernel
theorem dX11_findBursts_139 : decode cX11_findBursts 139 = .ok (.iload 4, 2) := by decide +kernel
theorem dX11_findBursts_141 : decode cX11_findBursts 141 = .ok (.iaload, 1) := by decide +kernel
theorem dX11_findBursts_142 : decode cX11_findBursts 142 = .ok (.invokestatic 160, 3) := by decide +kernel
theorem dX11_findBursts_145 : decode cX11_findBursts 145 = .ok (.aload_n 0, 1) := by decide +kernel
theorem dX11_findBursts_146 : decode cX11_findBursts 146 = .ok (.getfield 60, 3) := by decide +kernel
theorem dX11_findBursts_149 : decode cX11_findBursts 149 = .ok (.iload 4, 2) := by decide +kernel
theorem dX11_findBursts_151 : decode cX11_findBursts 151 = .ok (.iaload, 1) := by decide +kernel
theorem dX11_findBursts_152 : decode cX11_findBursts 152 = .ok (.invokestatic 160, 3) := by decide +kernel
theorem dX11_findBursts_155 : decode cX11_findBursts 155 = .ok (.iadd, 1) := by decide +kernel
theorem dX11_findBursts_156 : decode cX11_findBursts 156 = .ok (.iconst 4, 1) := by decide +kernel
theorem dX11_findBursts_157 : decode cX11_findBursts 157 = .ok (.aload_n 0, 1) := by decide +kernel
theorem dX11_findBursts_158 : decode cX11_findBursts 158 = .ok (.getfield 35, 3) := by decide +kernel
theorem dX11_findBursts_161 : decode cX11_findBursts 161 = .ok (.iconst 0, 1) := by decide +kernel
theorem dX11_findBursts_162 : decode cX11_findBursts 162 = .ok (.iaload, 1) := by decide +kernel
theorem dX11_findBursts_163 : decode cX11_findBursts 163 = .ok (.imul, 1) := by decide +kernel
theorem dX11_findBursts_164 : decode cX11_findBursts 164 = .ok (.if_icmp .lt 7, 3) := by decide +kernel
theorem dX11_findBursts_167 : decode cX11_findBursts 167 = .ok (.iconst 1, 1) := by decide +kernel
theorem dX11_findBursts_168 : decode cX11_findBursts 168 = .ok (.goto 4, 3) := by decide +kernel
theorem dX11_findBursts_171 : decode cX11_findBursts 171 = .ok (.iconst 0, 1) := by decide +kernel
theorem dX11_findBursts_172 : decode cX11_findBursts 172 = .ok (.bastore, 1) := by decide +kernel
theorem dX11_findBursts_173 : decode cX11_findBursts 173 = .ok (.aload_n 0, 1) := by decide +kernel
theorem dX11_findBursts_174 : decode cX11_findBursts 174 = .ok (.getfield 63, 3) := by decide +kernel
theorem dX11_findBursts_177 : decode cX11_findBursts 177 = .ok (.iload 4, 2) := by decide +kernel
theorem dX11_findBursts_179 : decode cX11_findBursts 179 = .ok (.baload, 1) := by decide +kernel
theorem dX11_findBursts_180 : decode cX11_findBursts 180 = .ok (.ifCond .eq 9, 3) := by decide +kernel
theorem dX11_findBursts_183 : decode cX11_findBursts 183 = .ok (.iload_n 1, 1) := by decide +kernel
theorem dX11_findBursts_184 : decode cX11_findBursts 184 = .ok (.iconst 1, 1) := by decide +kernel
theorem dX11_findBursts_185 : decode cX11_findBursts 185 = .ok (.iadd, 1) := by decide +kernel
theorem dX11_findBursts_186 : decode cX11_findBursts 186 = .ok (.goto 4, 3) := by decide +kernel
theorem dX11_findBursts_189 : decode cX11_findBursts 189 = .ok (.iconst 0, 1) := by decide +kernel
theorem dX11_findBursts_190 : decode cX11_findBursts 190 = .ok (.istore_n 1, 1) := by decide +kernel
theorem dX11_findBursts_191 : decode cX11_findBursts 191 = .ok (.aload_n 0, 1) := by decide +kernel
theorem dX11_findBursts_192 : decode cX11_findBursts 192 = .ok (.getfield 63, 3) := by decide +kernel
theorem dX11_findBursts_195 : decode cX11_findBursts 195 = .ok (.iload 4, 2) := by decide +kernel
theorem dX11_findBursts_197 : decode cX11_findBursts 197 = .ok (.baload, 1) := by decide +kernel
theorem dX11_findBursts_198 : decode cX11_findBursts 198 = .ok (.ifCond .eq 7, 3) := by decide +kernel
theorem dX11_findBursts_201 : decode cX11_findBursts 201 = .ok (.iconst 0, 1) := by decide +kernel
theorem dX11_findBursts_202 : decode cX11_findBursts 202 = .ok (.goto 6, 3) := by decide +kernel
theorem dX11_findBursts_205 : decode cX11_findBursts 205 = .ok (.iload_n 2, 1) := by decide +kernel
theorem dX11_findBursts_206 : decode cX11_findBursts 206 = .ok (.iconst 1, 1) := by decide +kernel
theorem dX11_findBursts_207 : decode cX11_findBursts 207 = .ok (.iadd, 1) := by decide +kernel
theorem dX11_findBursts_208 : decode cX11_findBursts 208 = .ok (.istore_n 2, 1) := by decide +kernel
theorem dX11_findBursts_209 : decode cX11_findBursts 209 = .ok (.iload_n 2, 1) := by decide +kernel
theorem dX11_findBursts_210 : decode cX11_findBursts 210 = .ok (.iconst 2, 1) := by decide +kernel
theorem dX11_findBursts_211 : decode cX11_findBursts 211 = .ok (.if_icmp .lt 7, 3) := by decide +kernel
theorem dX11_findBursts_214 : decode cX11_findBursts 214 = .ok (.iconst 0, 1) := by decide +kernel
theorem dX11_findBursts_215 : decode cX11_findBursts 215 = .ok (.goto 17, 3) := by decide +kernel
theorem dX11_findBursts_218 : decode cX11_findBursts 218 = .ok (.iload_n 1, 1) := by decide +kernel
theorem dX11_findBursts_219 : decode cX11_findBursts 219 = .ok (.iconst 2, 1) := by decide +kernel
theorem dX11_findBursts_220 : decode cX11_findBursts 220 = .ok (.if_icmp .ge 7, 3) := by decide +kernel
theorem dX11_findBursts_223 : decode cX11_findBursts 223 = .ok (.iload_n 3, 1) := by decide +kernel
theorem dX11_findBursts_224 : decode cX11_findBursts 224 = .ok (.ifCond .eq 7, 3) := by decide +kernel
theorem dX11_findBursts_227 : decode cX11_findBursts 227 = .ok (.iconst 1, 1) := by decide +kernel
theorem dX11_findBursts_228 : decode cX11_findBursts 228 = .ok (.goto 4, 3) := by decide +kernel
theorem dX11_findBursts_231 : decode cX11_findBursts 231 = .ok (.iconst 0, 1) := by decide +kernel
theorem dX11_findBursts_232 : decode cX11_findBursts 232 = .ok (.istore_n 3, 1) := by decide +kernel
theorem dX11_findBursts_233 : decode cX11_findBursts 233 = .ok (.aload_n 0, 1) := by decide +kernel
theorem dX11_findBursts_234 : decode cX11_findBursts 234 = .ok (.getfield 66, 3) := by decide +kernel
theorem dX11_findBursts_237 : decode cX11_findBursts 237 = .ok (.iload 4, 2) := by decide +kernel
theorem dX11_findBursts_239 : decode cX11_findBursts 239 = .ok (.iload_n 3, 1) := by decide +kernel
theorem dX11_findBursts_240 : decode cX11_findBursts 240 = .ok (.bastore, 1) := by decide +kernel
theorem dX11_findBursts_241 : decode cX11_findBursts 241 = .ok (.iinc 4 1, 3) := by decide +kernel
theorem dX11_findBursts_244 : decode cX11_findBursts 244 = .ok (.goto (-235), 3) := by decide +kernel
theorem dX11_findBursts_247 : decode cX11_findBursts 247 = .ok (.aload_n 0, 1) := by decide +kernel
theorem dX11_findBursts_248 : decode cX11_findBursts 248 = .ok (.iconst 0, 1) := by decide +kernel
theorem dX11_findBursts_249 : decode cX11_findBursts 249 = .ok (.putfield 163, 3) := by decide +kernel
theorem dX11_findBursts_252 : decode cX11_findBursts 252 = .ok (.aload_n 0, 1) := by decide +kernel
theorem dX11_findBursts_253 : decode cX11_findBursts 253 = .ok (.iconst 0, 1) := by decide +kernel
theorem dX11_findBursts_254 : decode cX11_findBursts 254 = .ok (.putfield 166, 3) := by decide +kernel
theorem dX11_findBursts_257 : decode cX11_findBursts 257 = .ok (.iconst 1, 1) := by decide +kernel
theorem dX11_findBursts_258 : decode cX11_findBursts 258 = .ok (.istore 4, 2) := by decide +kernel
theorem dX11_findBursts_260 : decode cX11_findBursts 260 = .ok (.iload 4, 2) := by decide +kernel
theorem dX11_findBursts_262 : decode cX11_findBursts 262 = .ok (.bipush 8, 2) := by decide +kernel
theorem dX11_findBursts_264 : decode cX11_findBursts 264 = .ok (.if_icmp .ge 172, 3) := by decide +kernel
theorem dX11_findBursts_267 : decode cX11_findBursts 267 = .ok (.aload_n 0, 1) := by decide +kernel
theorem dX11_findBursts_268 : decode cX11_findBursts 268 = .ok (.getfield 63, 3) := by decide +kernel
theorem dX11_findBursts_271 : decode cX11_findBursts 271 = .ok (.iload 4, 2) := by decide +kernel
theorem dX11_findBursts_273 : decode cX11_findBursts 273 = .ok (.iconst 1, 1) := by decide +kernel
theorem dX11_findBursts_274 : decode cX11_findBursts 274 = .ok (.isub, 1) := by decide +kernel
theorem dX11_findBursts_275 : decode cX11_findBursts 275 = .ok (.baload, 1) := by decide +kernel
theorem dX11_findBursts_276 : decode cX11_findBursts 276 = .ok (.ifCond .eq 154, 3) := by decide +kernel
theorem dX11_findBursts_279 : decode cX11_findBursts 279 = .ok (.aload_n 0, 1) := by decide +kernel
theorem dX11_findBursts_280 : decode cX11_findBursts 280 = .ok (.getfield 63, 3) := by decide +kernel
theorem dX11_findBursts_283 : decode cX11_findBursts 283 = .ok (.iload 4, 2) := by decide +kernel
theorem dX11_findBursts_285 : decode cX11_findBursts 285 = .ok (.baload, 1) := by decide +kernel
theorem dX11_findBursts_286 : decode cX11_findBursts 286 = .ok (.ifCond .eq 144, 3) := by decide +kernel
theorem dX11_findBursts_289 : decode cX11_findBursts 289 = .ok (.aload_n 0, 1) := by decide +kernel
theorem dX11_findBursts_290 : decode cX11_findBursts 290 = .ok (.getfield 60, 3) := by decide +kernel
theorem dX11_findBursts_293 : decode cX11_findBursts 293 = .ok (.iload 4, 2) := by decide +kernel
theorem dX11_findBursts_295 : decode cX11_findBursts 295 = .ok (.iconst 1, 1) := by decide +kernel
theorem dX11_findBursts_296 : decode cX11_findBursts 296 = .ok (.isub, 1) := by decide +kernel
theorem dX11_findBursts_297 : decode cX11_findBursts 297 = .ok (.iaload, 1) := by decide +kernel
theorem dX11_findBursts_298 : decode cX11_findBursts 298 = .ok (.ifCond .ge 13, 3) := by decide +kernel
theorem dX11_findBursts_301 : decode cX11_findBursts 301 = .ok (.aload_n 0, 1) := by decide +kernel
theorem dX11_findBursts_302 : decode cX11_findBursts 302 = .ok (.getfield 60, 3) := by decide +kernel
theorem dX11_findBursts_305 : decode cX11_findBursts 305 = .ok (.iload 4, 2) := by decide +kernel
theorem dX11_findBursts_307 : decode cX11_findBursts 307 = .ok (.iaload, 1) := by decide +kernel
theorem dX11_findBursts_308 : decode cX11_findBursts 308 = .ok (.ifCond .gt 25, 3) := by decide +kernel
theorem dX11_findBursts_311 : decode cX11_findBursts 311 = .ok (.aload_n 0, 1) := by decide +kernel
theorem dX11_findBursts_312 : decode cX11_findBursts 312 = .ok (.getfield 60, 3) := by decide +kernel
theorem dX11_findBursts_315 : decode cX11_findBursts 315 = .ok (.iload 4, 2) := by decide +kernel
theorem dX11_findBursts_317 : decode cX11_findBursts 317 = .ok (.iconst 1, 1) := by decide +kernel
theorem dX11_findBursts_318 : decode cX11_findBursts 318 = .ok (.isub, 1) := by decide +kernel
theorem dX11_findBursts_319 : decode cX11_findBursts 319 = .ok (.iaload, 1) := by decide +kernel
theorem dX11_findBursts_320 : decode cX11_findBursts 320 = .ok (.ifCond .le 17, 3) := by decide +kernel
theorem dX11_findBursts_323 : decode cX11_findBursts 323 = .ok (.aload_n 0, 1) := by decide +kernel
theorem dX11_findBursts_324 : decode cX11_findBursts 324 = .ok (.getfield 60, 3) := by decide +kernel
theorem dX11_findBursts_327 : decode cX11_findBursts 327 = .ok (.iload 4, 2) := by decide +kernel
theorem dX11_findBursts_329 : decode cX11_findBursts 329 = .ok (.iaload, 1) := by decide +kernel
theorem dX11_findBursts_330 : decode cX11_findBursts 330 = .ok (.ifCond .ge 7, 3) := by decide +kernel
theorem dX11_findBursts_333 : decode cX11_findBursts 333 = .ok (.iconst 1, 1) := by decide +kernel
theorem dX11_findBursts_334 : decode cX11_findBursts 334 = .ok (.goto 4, 3) := by decide +kernel
theorem dX11_findBursts_337 : decode cX11_findBursts 337 = .ok (.iconst 0, 1) := by decide +kernel
theorem dX11_findBursts_338 : decode cX11_findBursts 338 = .ok (.istore 5, 2) := by decide +kernel
theorem dX11_findBursts_340 : decode cX11_findBursts 340 = .ok (.iload 5, 2) := by decide +kernel
theorem dX11_findBursts_342 : decode cX11_findBursts 342 = .ok (.ifCond .eq 47, 3) := by decide +kernel
theorem dX11_findBursts_345 : decode cX11_findBursts 345 = .ok (.aload_n 0, 1) := by decide +kernel
theorem dX11_findBursts_346 : decode cX11_findBursts 346 = .ok (.getfield 60, 3) := by decide +kernel
theorem dX11_findBursts_349 : decode cX11_findBursts 349 = .ok (.iload 4, 2) := by decide +kernel
theorem dX11_findBursts_351 : decode cX11_findBursts 351 = .ok (.iconst 1, 1) := by decide +kernel
theorem dX11_findBursts_352 : decode cX11_findBursts 352 = .ok (.isub, 1) := by decide +kernel
theorem dX11_findBursts_353 : decode cX11_findBursts 353 = .ok (.iaload, 1) := by decide +kernel
theorem dX11_findBursts_354 : decode cX11_findBursts 354 = .ok (.invokestatic 160, 3) := by decide +kernel
theorem dX11_findBursts_357 : decode cX11_findBursts 357 = .ok (.aload_n 0, 1) := by decide +kernel
theorem dX11_findBursts_358 : decode cX11_findBursts 358 = .ok (.getfield 35, 3) := by decide +kernel
theorem dX11_findBursts_361 : decode cX11_findBursts 361 = .ok (.iconst 0, 1) := by decide +kernel
theorem dX11_findBursts_362 : decode cX11_findBursts 362 = .ok (.iaload, 1) := by decide +kernel
theorem dX11_findBursts_363 : decode cX11_findBursts 363 = .ok (.if_icmp .lt 26, 3) := by decide +kernel
theorem dX11_findBursts_366 : decode cX11_findBursts 366 = .ok (.aload_n 0, 1) := by decide +kernel
theorem dX11_findBursts_367 : decode cX11_findBursts 367 = .ok (.getfield 60, 3) := by decide +kernel
theorem dX11_findBursts_370 : decode cX11_findBursts 370 = .ok (.iload 4, 2) := by decide +kernel
theorem dX11_findBursts_372 : decode cX11_findBursts 372 = .ok (.iaload, 1) := by decide +kernel
theorem dX11_findBursts_373 : decode cX11_findBursts 373 = .ok (.invokestatic 160, 3) := by decide +kernel
theorem dX11_findBursts_376 : decode cX11_findBursts 376 = .ok (.aload_n 0, 1) := by decide +kernel
theorem dX11_findBursts_377 : decode cX11_findBursts 377 = .ok (.getfield 35, 3) := by decide +kernel
theorem dX11_findBursts_380 : decode cX11_findBursts 380 = .ok (.iconst 0, 1) := by decide +kernel
theorem dX11_findBursts_381 : decode cX11_findBursts 381 = .ok (.iaload, 1) := by decide +kernel
theorem dX11_findBursts_382 : decode cX11_findBursts 382 = .ok (.if_icmp .lt 7, 3) := by decide +kernel
theorem dX11_findBursts_385 : decode cX11_findBursts 385 = .ok (.iconst 1, 1) := by decide +kernel
theorem dX11_findBursts_386 : decode cX11_findBursts 386 = .ok (.goto 4, 3) := by decide +kernel
theorem dX11_findBursts_389 : decode cX11_findBursts 389 = .ok (.iconst 0, 1) := by decide +kernel
theorem dX11_findBursts_390 : decode cX11_findBursts 390 = .ok (.istore 6, 2) := by decide +kernel
theorem dX11_findBursts_392 : decode cX11_findBursts 392 = .ok (.aload_n 0, 1) := by decide +kernel
theorem dX11_findBursts_393 : decode cX11_findBursts 393 = .ok (.dup, 1) := by decide +kernel
theorem dX11_findBursts_394 : decode cX11_findBursts 394 = .ok (.getfield 163, 3) := by decide +kernel
theorem dX11_findBursts_397 : decode cX11_findBursts 397 = .ok (.iload 6, 2) := by decide +kernel
theorem dX11_findBursts_399 : decode cX11_findBursts 399 = .ok (.ifCond .eq 7, 3) := by decide +kernel
theorem dX11_findBursts_402 : decode cX11_findBursts 402 = .ok (.iconst 1, 1) := by decide +kernel
theorem dX11_findBursts_403 : decode cX11_findBursts 403 = .ok (.goto 4, 3) := by decide +kernel
theorem dX11_findBursts_406 : decode cX11_findBursts 406 = .ok (.iconst 0, 1) := by decide +kernel
theorem dX11_findBursts_407 : decode cX11_findBursts 407 = .ok (.iadd, 1) := by decide +kernel
theorem dX11_findBursts_408 : decode cX11_findBursts 408 = .ok (.putfield 163, 3) := by decide +kernel
theorem dX11_findBursts_411 : decode cX11_findBursts 411 = .ok (.aload_n 0, 1) := by decide +kernel
theorem dX11_findBursts_412 : decode cX11_findBursts 412 = .ok (.dup, 1) := by decide +kernel
theorem dX11_findBursts_413 : decode cX11_findBursts 413 = .ok (.getfield 166, 3) := by decide +kernel
theorem dX11_findBursts_416 : decode cX11_findBursts 416 = .ok (.iload 6, 2) := by decide +kernel
theorem dX11_findBursts_418 : decode cX11_findBursts 418 = .ok (.ifCond .eq 7, 3) := by decide +kernel
theorem dX11_findBursts_421 : decode cX11_findBursts 421 = .ok (.iconst 0, 1) := by decide +kernel
theorem dX11_findBursts_422 : decode cX11_findBursts 422 = .ok (.goto 4, 3) := by decide +kernel
theorem dX11_findBursts_425 : decode cX11_findBursts 425 = .ok (.iconst 1, 1) := by decide +kernel
theorem dX11_findBursts_426 : decode cX11_findBursts 426 = .ok (.iadd, 1) := by decide +kernel
theorem dX11_findBursts_427 : decode cX11_findBursts 427 = .ok (.putfield 166, 3) := by decide +kernel
theorem dX11_findBursts_430 : decode cX11_findBursts 430 = .ok (.iinc 4 1, 3) := by decide +kernel
theorem dX11_findBursts_433 : decode cX11_findBursts 433 = .ok (.goto (-173), 3) := by decide +kernel
theorem dX11_findBursts_436 : decode cX11_findBursts 436 = .ok (.return_, 1) := by decide +kernel
theorem dX11_guessed_0 : decode cX11_guessed 0 = .ok (.aload_n 0, 1) := by decide +kernel
theorem dX11_guessed_1 : decode cX11_guessed 1 = .ok (.getfield 163, 3) := by decide +kernel
theorem dX11_guessed_4 : decode cX11_guessed 4 = .ok (.aload_n 0, 1) := by decide +kernel
theorem dX11_guessed_5 : decode cX11_guessed 5 = .ok (.getfield 166, 3) := by decide +kernel
theorem dX11_guessed_8 : decode cX11_guessed 8 = .ok (.if_icmp .le 7, 3) := by decide +kernel
theorem dX11_guessed_11 : decode cX11_guessed 11 = .ok (.iconst 1, 1) := by decide +kernel
theorem dX11_guessed_12 : decode cX11_guessed 12 = .ok (.goto 4, 3) := by decide +kernel
theorem dX11_guessed_15 : decode cX11_guessed 15 = .ok (.iconst 0, 1) := by decide +kernel
theorem dX11_guessed_16 : decode cX11_guessed 16 = .ok (.ireturn, 1) := by decide +kernel
theorem dX11_findTurns_0 : decode cX11_findTurns 0 = .ok (.fconst 0, 1) := by decide +kernel
theorem dX11_findTurns_1 : decode cX11_findTurns 1 = .ok (.fstore_n 2, 1) := by decide +kernel
theorem dX11_findTurns_2 : decode cX11_findTurns 2 = .ok (.fconst 0, 1) := by decide +kernel
theorem dX11_findTurns_3 : decode cX11_findTurns 3 = .ok (.fstore_n 3, 1) := by decide +kernel
theorem dX11_findTurns_4 : decode cX11_findTurns 4 = .ok (.iconst 1, 1) := by decide +kernel
theorem dX11_findTurns_5 : decode cX11_findTurns 5 = .ok (.istore 4, 2) := by decide +kernel
theorem dX11_findTurns_7 : decode cX11_findTurns 7 = .ok (.iconst 0, 1) := by decide +kernel
theorem dX11_findTurns_8 : decode cX11_findTurns 8 = .ok (.istore 5, 2) := by decide +kernel
theorem dX11_findTurns_10 : decode cX11_findTurns 10 = .ok (.iload 5, 2) := by decide +kernel
theorem dX11_findTurns_12 : decode cX11_findTurns 12 = .ok (.bipush 8, 2) := by decide +kernel
theorem dX11_findTurns_14 : decode cX11_findTurns 14 = .ok (.if_icmp .ge 156, 3) := by decide +kernel
theorem dX11_findTurns_17 : decode cX11_findTurns 17 = .ok (.aload_n 0, 1) := by decide +kernel
theorem dX11_findTurns_18 : decode cX11_findTurns 18 = .ok (.getfield 63, 3) := by decide +kernel
theorem dX11_findTurns_21 : decode cX11_findTurns 21 = .ok (.iload 5, 2) := by decide +kernel
theorem dX11_findTurns_23 : decode cX11_findTurns 23 = .ok (.baload, 1) := by decide +kernel
theorem dX11_findTurns_24 : decode cX11_findTurns 24 = .ok (.ifCond .eq 124, 3) := by decide +kernel
theorem dX11_findTurns_27 : decode cX11_findTurns 27 = .ok (.aload_n 0, 1) := by decide +kernel
theorem dX11_findTurns_28 : decode cX11_findTurns 28 = .ok (.getfield 57, 3) := by decide +kernel
theorem dX11_findTurns_31 : decode cX11_findTurns 31 = .ok (.iload 5, 2) := by decide +kernel
theorem dX11_findTurns_33 : decode cX11_findTurns 33 = .ok (.iaload, 1) := by decide +kernel
theorem dX11_findTurns_34 : decode cX11_findTurns 34 = .ok (.ineg, 1) := by decide +kernel
theorem dX11_findTurns_35 : decode cX11_findTurns 35 = .ok (.i2f, 1) := by decide +kernel
theorem dX11_findTurns_36 : decode cX11_findTurns 36 = .ok (.fstore 6, 2) := by decide +kernel
theorem dX11_findTurns_38 : decode cX11_findTurns 38 = .ok (.aload_n 0, 1) := by decide +kernel
theorem dX11_findTurns_39 : decode cX11_findTurns 39 = .ok (.getfield 60, 3) := by decide +kernel
theorem dX11_findTurns_42 : decode cX11_findTurns 42 = .ok (.iload 5, 2) := by decide +kernel
theorem dX11_findTurns_44 : decode cX11_findTurns 44 = .ok (.iaload, 1) := by decide +kernel
theorem dX11_findTurns_45 : decode cX11_findTurns 45 = .ok (.ineg, 1) := by decide +kernel
theorem dX11_findTurns_46 : decode cX11_findTurns 46 = .ok (.i2f, 1) := by decide +kernel
theorem dX11_findTurns_47 : decode cX11_findTurns 47 = .ok (.fstore 7, 2) := by decide +kernel
theorem dX11_findTurns_49 : decode cX11_findTurns 49 = .ok (.iload_n 1, 1) := by decide +kernel
theorem dX11_findTurns_50 : decode cX11_findTurns 50 = .ok (.iconst 1, 1) := by decide +kernel
theorem dX11_findTurns_51 : decode cX11_findTurns 51 = .ok (.if_icmp .ne 54, 3) := by decide +kernel
theorem dX11_findTurns_54 : decode cX11_findTurns 54 = .ok (.iload 5, 2) := by decide +kernel
theorem dX11_findTurns_56 : decode cX11_findTurns 56 = .ok (.ifCond .le 49, 3) := by decide +kernel
theorem dX11_findTurns_59 : decode cX11_findTurns 59 = .ok (.aload_n 0, 1) := by decide +kernel
theorem dX11_findTurns_60 : decode cX11_findTurns 60 = .ok (.getfield 57, 3) := by decide +kernel
theorem dX11_findTurns_63 : decode cX11_findTurns 63 = .ok (.iload 5, 2) := by decide +kernel
theorem dX11_findTurns_65 : decode cX11_findTurns 65 = .ok (.iaload, 1) := by decide +kernel
theorem dX11_findTurns_66 : decode cX11_findTurns 66 = .ok (.aload_n 0, 1) := by decide +kernel
theorem dX11_findTurns_67 : decode cX11_findTurns 67 = .ok (.getfield 57, 3) := by decide +kernel
theorem dX11_findTurns_70 : decode cX11_findTurns 70 = .ok (.iload 5, 2) := by decide +kernel
theorem dX11_findTurns_72 : decode cX11_findTurns 72 = .ok (.iconst 1, 1) := by decide +kernel
theorem dX11_findTurns_73 : decode cX11_findTurns 73 = .ok (.isub, 1) := by decide +kernel
theorem dX11_findTurns_74 : decode cX11_findTurns 74 = .ok (.iaload, 1) := by decide +kernel
theorem dX11_findTurns_75 : decode cX11_findTurns 75 = .ok (.iadd, 1) := by decide +kernel
theorem dX11_findTurns_76 : decode cX11_findTurns 76 = .ok (.ineg, 1) := by decide +kernel
theorem dX11_findTurns_77 : decode cX11_findTurns 77 = .ok (.i2f, 1) := by decide +kernel
theorem dX11_findTurns_78 : decode cX11_findTurns 78 = .ok (.fconst 2, 1) := by decide +kernel
theorem dX11_findTurns_79 : decode cX11_findTurns 79 = .ok (.fdiv, 1) := by decide +kernel
theorem dX11_findTurns_80 : decode cX11_findTurns 80 = .ok (.fstore 6, 2) := by decide +kernel
theorem dX11_findTurns_82 : decode cX11_findTurns 82 = .ok (.aload_n 0, 1) := by decide +kernel
theorem dX11_findTurns_83 : decode cX11_findTurns 83 = .ok (.getfield 60, 3) := by decide +kernel
theorem dX11_findTurns_86 : decode cX11_findTurns 86 = .ok (.iload 5, 2) := by decide +kernel
theorem dX11_findTurns_88 : decode cX11_findTurns 88 = .ok (.iaload, 1) := by decide +kernel
theorem dX11_findTurns_89 : decode cX11_findTurns 89 = .ok (.aload_n 0, 1) := by decide +kernel
theorem dX11_findTurns_90 : decode cX11_findTurns 90 = .ok (.getfield 60, 3) := by decide +kernel
theorem dX11_findTurns_93 : decode cX11_findTurns 93 = .ok (.iload 5, 2) := by decide +kernel
theorem dX11_findTurns_95 : decode cX11_findTurns 95 = .ok (.iconst 1, 1) := by decide +kernel
theorem dX11_findTurns_96 : decode cX11_findTurns 96 = .ok (.isub, 1) := by decide +kernel
theorem dX11_findTurns_97 : decode cX11_findTurns 97 = .ok (.iaload, 1) := by decide +kernel
theorem dX11_findTurns_98 : decode cX11_findTurns 98 = .ok (.iadd, 1) := by decide +kernel
theorem dX11_findTurns_99 : decode cX11_findTurns 99 = .ok (.ineg, 1) := by decide +kernel
theorem dX11_findTurns_100 : decode cX11_findTurns 100 = .ok (.i2f, 1) := by decide +kernel
theorem dX11_findTurns_101 : decode cX11_findTurns 101 = .ok (.fconst 2, 1) := by decide +kernel
theorem dX11_findTurns_102 : decode cX11_findTurns 102 = .ok (.fdiv, 1) := by decide +kernel
theorem dX11_findTurns_103 : decode cX11_findTurns 103 = .ok (.fstore 7, 2) := by decide +kernel
theorem dX11_findTurns_105 : decode cX11_findTurns 105 = .ok (.iload 4, 2) := by decide +kernel
theorem dX11_findTurns_107 : decode cX11_findTurns 107 = .ok (.ifCond .eq 8, 3) := by decide +kernel
theorem dX11_findTurns_110 : decode cX11_findTurns 110 = .ok (.fload 6, 2) := by decide +kernel
theorem dX11_findTurns_112 : decode cX11_findTurns 112 = .ok (.goto 12, 3) := by decide +kernel
theorem dX11_findTurns_115 : decode cX11_findTurns 115 = .ok (.fload_n 2, 1) := by decide +kernel
theorem dX11_findTurns_116 : decode cX11_findTurns 116 = .ok (.fload 6, 2) := by decide +kernel
theorem dX11_findTurns_118 : decode cX11_findTurns 118 = .ok (.fload_n 2, 1) := by decide +kernel
theorem dX11_findTurns_119 : decode cX11_findTurns 119 = .ok (.fsub, 1) := by decide +kernel
theorem dX11_findTurns_120 : decode cX11_findTurns 120 = .ok (.ldc 169, 2) := by decide +kernel
theorem dX11_findTurns_122 : decode cX11_findTurns 122 = .ok (.fmul, 1) := by decide +kernel
theorem dX11_findTurns_123 : decode cX11_findTurns 123 = .ok (.fadd, 1) := by decide +kernel
theorem dX11_findTurns_124 : decode cX11_findTurns 124 = .ok (.fstore_n 2, 1) := by decide +kernel
theorem dX11_findTurns_125 : decode cX11_findTurns 125 = .ok (.iload 4, 2) := by decide +kernel
theorem dX11_findTurns_127 : decode cX11_findTurns 127 = .ok (.ifCond .eq 8, 3) := by decide +kernel
theorem dX11_findTurns_130 : decode cX11_findTurns 130 = .ok (.fload 7, 2) := by decide +kernel
theorem dX11_findTurns_132 : decode cX11_findTurns 132 = .ok (.goto 12, 3) := by decide +kernel
theorem dX11_findTurns_135 : decode cX11_findTurns 135 = .ok (.fload_n 3, 1) := by decide +kernel
theorem dX11_findTurns_136 : decode cX11_findTurns 136 = .ok (.fload 7, 2) := by decide +kernel
theorem dX11_findTurns_138 : decode cX11_findTurns 138 = .ok (.fload_n 3, 1) := by decide +kernel
theorem dX11_findTurns_139 : decode cX11_findTurns 139 = .ok (.fsub, 1) := by decide +kernel
theorem dX11_findTurns_140 : decode cX11_findTurns 140 = .ok (.ldc 169, 2) := by decide +kernel
theorem dX11_findTurns_142 : decode cX11_findTurns 142 = .ok (.fmul, 1) := by decide +kernel
theorem dX11_findTurns_143 : decode cX11_findTurns 143 = .ok (.fadd, 1) := by decide +kernel
theorem dX11_findTurns_144 : decode cX11_findTurns 144 = .ok (.fstore_n 3, 1) := by decide +kernel
theorem dX11_findTurns_145 : decode cX11_findTurns 145 = .ok (.iconst 0, 1) := by decide +kernel
theorem dX11_findTurns_146 : decode cX11_findTurns 146 = .ok (.istore 4, 2) := by decide +kernel
theorem dX11_findTurns_148 : decode cX11_findTurns 148 = .ok (.aload_n 0, 1) := by decide +kernel
theorem dX11_findTurns_149 : decode cX11_findTurns 149 = .ok (.getfield 69, 3) := by decide +kernel
theorem dX11_findTurns_152 : decode cX11_findTurns 152 = .ok (.iload 5, 2) := by decide +kernel
theorem dX11_findTurns_154 : decode cX11_findTurns 154 = .ok (.fload_n 2, 1) := by decide +kernel
theorem dX11_findTurns_155 : decode cX11_findTurns 155 = .ok (.fastore, 1) := by decide +kernel
theorem dX11_findTurns_156 : decode cX11_findTurns 156 = .ok (.aload_n 0, 1) := by decide +kernel
theorem dX11_findTurns_157 : decode cX11_findTurns 157 = .ok (.getfield 73, 3) := by decide +kernel
theorem dX11_findTurns_160 : decode cX11_findTurns 160 = .ok (.iload 5, 2) := by decide +kernel
theorem dX11_findTurns_162 : decode cX11_findTurns 162 = .ok (.fload_n 3, 1) := by decide +kernel
theorem dX11_findTurns_163 : decode cX11_findTurns 163 = .ok (.fastore, 1) := by decide +kernel
theorem dX11_findTurns_164 : decode cX11_findTurns 164 = .ok (.iinc 5 1, 3) := by decide +kernel
theorem dX11_findTurns_167 : decode cX11_findTurns 167 = .ok (.goto (-157), 3) := by decide +kernel
theorem dX11_findTurns_170 : decode cX11_findTurns 170 = .ok (.return_, 1) := by decide +kernel
theorem dX11_from_0 : decode cX11_from 0 = .ok (.aload_n 0, 1) := by decide +kernel
theorem dX11_from_1 : decode cX11_from 1 = .ok (.iload_n 1, 1) := by decide +kernel
theorem dX11_from_2 : decode cX11_from 2 = .ok (.aload_n 0, 1) := by decide +kernel
theorem dX11_from_3 : decode cX11_from 3 = .ok (.getfield 48, 3) := by decide +kernel
theorem dX11_from_6 : decode cX11_from 6 = .ok (.iload_n 1, 1) := by decide +kernel
theorem dX11_from_7 : decode cX11_from 7 = .ok (.iaload, 1) := by decide +kernel
theorem dX11_from_8 : decode cX11_from 8 = .ok (.iload_n 2, 1) := by decide +kernel
theorem dX11_from_9 : decode cX11_from 9 = .ok (.iadd, 1) := by decide +kernel
theorem dX11_from_10 : decode cX11_from 10 = .ok (.invokevirtual 151, 3) := by decide +kernel
theorem dX11_from_13 : decode cX11_from 13 = .ok (.ireturn, 1) := by decide +kernel
theorem dX11_sumOf_0 : decode cX11_sumOf 0 = .ok (.iconst 0, 1) := by decide +kernel
theorem dX11_sumOf_1 : decode cX11_sumOf 1 = .ok (.istore_n 3, 1) := by decide +kernel
theorem dX11_sumOf_2 : decode cX11_sumOf 2 = .ok (.iconst 0, 1) := by decide +kernel
theorem dX11_sumOf_3 : decode cX11_sumOf 3 = .ok (.istore 4, 2) := by decide +kernel
theorem dX11_sumOf_5 : decode cX11_sumOf 5 = .ok (.iload 4, 2) := by decide +kernel
theorem dX11_sumOf_7 : decode cX11_sumOf 7 = .ok (.bipush 8, 2) := by decide +kernel
theorem dX11_sumOf_9 : decode cX11_sumOf 9 = .ok (.if_icmp .ge 27, 3) := by decide +kernel
theorem dX11_sumOf_12 : decode cX11_sumOf 12 = .ok (.iload_n 3, 1) := by decide +kernel
theorem dX11_sumOf_13 : decode cX11_sumOf 13 = .ok (.aload_n 0, 1) := by decide +kernel
theorem dX11_sumOf_14 : decode cX11_sumOf 14 = .ok (.iload_n 1, 1) := by decide +kernel
theorem dX11_sumOf_15 : decode cX11_sumOf 15 = .ok (.bipush 16, 2) := by decide +kernel
theorem dX11_sumOf_17 : decode cX11_sumOf 17 = .ok (.bipush 8, 2) := by decide +kernel
theorem dX11_sumOf_19 : decode cX11_sumOf 19 = .ok (.iload_n 2, 1) := by decide +kernel
theorem dX11_sumOf_20 : decode cX11_sumOf 20 = .ok (.imul, 1) := by decide +kernel
theorem dX11_sumOf_21 : decode cX11_sumOf 21 = .ok (.iadd, 1) := by decide +kernel
theorem dX11_sumOf_22 : decode cX11_sumOf 22 = .ok (.iload 4, 2) := by decide +kernel
theorem dX11_sumOf_24 : decode cX11_sumOf 24 = .ok (.iadd, 1) := by decide +kernel
theorem dX11_sumOf_25 : decode cX11_sumOf 25 = .ok (.invokevirtual 170, 3) := by decide +kernel
theorem dX11_sumOf_28 : decode cX11_sumOf 28 = .ok (.iadd, 1) := by decide +kernel
theorem dX11_sumOf_29 : decode cX11_sumOf 29 = .ok (.istore_n 3, 1) := by decide +kernel
theorem dX11_sumOf_30 : decode cX11_sumOf 30 = .ok (.iinc 4 1, 3) := by decide +kernel
theorem dX11_sumOf_33 : decode cX11_sumOf 33 = .ok (.goto (-28), 3) := by decide +kernel
theorem dX11_sumOf_36 : decode cX11_sumOf 36 = .ok (.iload_n 3, 1) := by decide +kernel
theorem dX11_sumOf_37 : decode cX11_sumOf 37 = .ok (.ireturn, 1) := by decide +kernel
theorem dX11_isNear_0 : decode cX11_isNear 0 = .ok (.iload_n 2, 1) := by decide +kernel
theorem dX11_isNear_1 : decode cX11_isNear 1 = .ok (.iconst 0, 1) := by decide +kernel
theorem dX11_isNear_2 : decode cX11_isNear 2 = .ok (.bipush 7, 2) := by decide +kernel
theorem dX11_isNear_4 : decode cX11_isNear 4 = .ok (.invokestatic 103, 3) := by decide +kernel
theorem dX11_isNear_7 : decode cX11_isNear 7 = .ok (.ifCond .eq 35, 3) := by decide +kernel
theorem dX11_isNear_10 : decode cX11_isNear 10 = .ok (.aload_n 0, 1) := by decide +kernel
theorem dX11_isNear_11 : decode cX11_isNear 11 = .ok (.iload_n 2, 1) := by decide +kernel
theorem dX11_isNear_12 : decode cX11_isNear 12 = .ok (.iload_n 3, 1) := by decide +kernel
theorem dX11_isNear_13 : decode cX11_isNear 13 = .ok (.invokevirtual 173, 3) := by decide +kernel
theorem dX11_isNear_16 : decode cX11_isNear 16 = .ok (.aload_n 0, 1) := by decide +kernel
theorem dX11_isNear_17 : decode cX11_isNear 17 = .ok (.iload_n 1, 1) := by decide +kernel
theorem dX11_isNear_18 : decode cX11_isNear 18 = .ok (.iload_n 3, 1) := by decide +kernel
theorem dX11_isNear_19 : decode cX11_isNear 19 = .ok (.invokevirtual 173, 3) := by decide +kernel
theorem dX11_isNear_22 : decode cX11_isNear 22 = .ok (.isub, 1) := by decide +kernel
theorem dX11_isNear_23 : decode cX11_isNear 23 = .ok (.invokestatic 160, 3) := by decide +kernel
theorem dX11_isNear_26 : decode cX11_isNear 26 = .ok (.bipush 8, 2) := by decide +kernel
theorem dX11_isNear_28 : decode cX11_isNear 28 = .ok (.aload_n 0, 1) := by decide +kernel
theorem dX11_isNear_29 : decode cX11_isNear 29 = .ok (.getfield 35, 3) := by decide +kernel
theorem dX11_isNear_32 : decode cX11_isNear 32 = .ok (.iconst 1, 1) := by decide +kernel
theorem dX11_isNear_33 : decode cX11_isNear 33 = .ok (.iaload, 1) := by decide +kernel
theorem dX11_isNear_34 : decode cX11_isNear 34 = .ok (.imul, 1) := by decide +kernel
theorem dX11_isNear_35 : decode cX11_isNear 35 = .ok (.if_icmp .gt 7, 3) := by decide +kernel
theorem dX11_isNear_38 : decode cX11_isNear 38 = .ok (.iconst 1, 1) := by decide +kernel
theorem dX11_isNear_39 : decode cX11_isNear 39 = .ok (.goto 4, 3) := by decide +kernel
theorem dX11_isNear_42 : decode cX11_isNear 42 = .ok (.iconst 0, 1) := by decide +kernel
theorem dX11_isNear_43 : decode cX11_isNear 43 = .ok (.ireturn, 1) := by decide +kernel
theorem dX11_way_0 : decode cX11_way 0 = .ok (.aload_n 0, 1) := by decide +kernel
theorem dX11_way_1 : decode cX11_way 1 = .ok (.getfield 35, 3) := by decide +kernel
theorem dX11_way_4 : decode cX11_way 4 = .ok (.iconst 2, 1) := by decide +kernel
theorem dX11_way_5 : decode cX11_way 5 = .ok (.iaload, 1) := by decide +kernel
theorem dX11_way_6 : decode cX11_way 6 = .ok (.istore 4, 2) := by decide +kernel
theorem dX11_way_8 : decode cX11_way 8 = .ok (.iload_n 1, 1) := by decide +kernel
theorem dX11_way_9 : decode cX11_way 9 = .ok (.ifCond .le 7, 3) := by decide +kernel
theorem dX11_way_12 : decode cX11_way 12 = .ok (.iconst 1, 1) := by decide +kernel
theorem dX11_way_13 : decode cX11_way 13 = .ok (.goto 4, 3) := by decide +kernel
theorem dX11_way_16 : decode cX11_way 16 = .ok (.iconst 0, 1) := by decide +kernel
theorem dX11_way_17 : decode cX11_way 17 = .ok (.istore 5, 2) := by decide +kernel
theorem dX11_way_19 : decode cX11_way 19 = .ok (.iload_n 1, 1) := by decide +kernel
theorem dX11_way_20 : decode cX11_way 20 = .ok (.bipush 7, 2) := by decide +kernel
theorem dX11_way_22 : decode cX11_way 22 = .ok (.if_icmp .ge 7, 3) := by decide +kernel
theorem dX11_way_25 : decode cX11_way 25 = .ok (.iconst 1, 1) := by decide +kernel
theorem dX11_way_26 : decode cX11_way 26 = .ok (.goto 4, 3) := by decide +kernel
theorem dX11_way_29 : decode cX11_way 29 = .ok (.iconst 0, 1) := by decide +kernel
theorem dX11_way_30 : decode cX11_way 30 = .ok (.istore 6, 2) := by decide +kernel
theorem dX11_way_32 : decode cX11_way 32 = .ok (.iload_n 3, 1) := by decide +kernel
theorem dX11_way_33 : decode cX11_way 33 = .ok (.iconst 1, 1) := by decide +kernel
theorem dX11_way_34 : decode cX11_way 34 = .ok (.if_icmp .eq 8, 3) := by decide +kernel
theorem dX11_way_37 : decode cX11_way 37 = .ok (.iload 4, 2) := by decide +kernel
theorem dX11_way_39 : decode cX11_way 39 = .ok (.ifCond .ne 5, 3) := by decide +kernel
theorem dX11_way_42 : decode cX11_way 42 = .ok (.iconst 0, 1) := by decide +kernel
theorem dX11_way_43 : decode cX11_way 43 = .ok (.ireturn, 1) := by decide +kernel
theorem dX11_way_44 : decode cX11_way 44 = .ok (.iload 4, 2) := by decide +kernel
theorem dX11_way_46 : decode cX11_way 46 = .ok (.iconst 1, 1) := by decide +kernel
theorem dX11_way_47 : decode cX11_way 47 = .ok (.if_icmp .ne 14, 3) := by decide +kernel
theorem dX11_way_50 : decode cX11_way 50 = .ok (.iload 5, 2) := by decide +kernel
theorem dX11_way_52 : decode cX11_way 52 = .ok (.ifCond .eq 7, 3) := by decide +kernel
theorem dX11_way_55 : decode cX11_way 55 = .ok (.iconst 1, 1) := by decide +kernel
theorem dX11_way_56 : decode cX11_way 56 = .ok (.goto 4, 3) := by decide +kernel
theorem dX11_way_59 : decode cX11_way 59 = .ok (.iconst 2, 1) := by decide +kernel
theorem dX11_way_60 : decode cX11_way 60 = .ok (.ireturn, 1) := by decide +kernel
theorem dX11_way_61 : decode cX11_way 61 = .ok (.iload 4, 2) := by decide +kernel
theorem dX11_way_63 : decode cX11_way 63 = .ok (.iconst 3, 1) := by decide +kernel
theorem dX11_way_64 : decode cX11_way 64 = .ok (.if_icmp .ne 25, 3) := by decide +kernel
theorem dX11_way_67 : decode cX11_way 67 = .ok (.aload_n 0, 1) := by decide +kernel
theorem dX11_way_68 : decode cX11_way 68 = .ok (.iload_n 1, 1) := by decide +kernel
theorem dX11_way_69 : decode cX11_way 69 = .ok (.iload_n 1, 1) := by decide +kernel
theorem dX11_way_70 : decode cX11_way 70 = .ok (.iconst 1, 1) := by decide +kernel
theorem dX11_way_71 : decode cX11_way 71 = .ok (.isub, 1) := by decide +kernel
theorem dX11_way_72 : decode cX11_way 72 = .ok (.iload_n 2, 1) := by decide +kernel
theorem dX11_way_73 : decode cX11_way 73 = .ok (.invokevirtual 176, 3) := by decide +kernel
theorem dX11_way_76 : decode cX11_way 76 = .ok (.istore 5, 2) := by decide +kernel
theorem dX11_way_78 : decode cX11_way 78 = .ok (.aload_n 0, 1) := by decide +kernel
theorem dX11_way_79 : decode cX11_way 79 = .ok (.iload_n 1, 1) := by decide +kernel
theorem dX11_way_80 : decode cX11_way 80 = .ok (.iload_n 1, 1) := by decide +kernel
theorem dX11_way_81 : decode cX11_way 81 = .ok (.iconst 1, 1) := by decide +kernel
theorem dX11_way_82 : decode cX11_way 82 = .ok (.iadd, 1) := by decide +kernel
theorem dX11_way_83 : decode cX11_way 83 = .ok (.iload_n 2, 1) := by decide +kernel
theorem dX11_way_84 : decode cX11_way 84 = .ok (.invokevirtual 176, 3) := by decide +kernel
theorem dX11_way_87 : decode cX11_way 87 = .ok (.istore 6, 2) := by decide +kernel
theorem dX11_way_89 : decode cX11_way 89 = .ok (.iload 5, 2) := by decide +kernel
theorem dX11_way_91 : decode cX11_way 91 = .ok (.ifCond .eq 7, 3) := by decide +kernel
theorem dX11_way_94 : decode cX11_way 94 = .ok (.iconst 1, 1) := by decide +kernel
theorem dX11_way_95 : decode cX11_way 95 = .ok (.goto 4, 3) := by decide +kernel
theorem dX11_way_98 : decode cX11_way 98 = .ok (.iconst 0, 1) := by decide +kernel
theorem dX11_way_99 : decode cX11_way 99 = .ok (.iload 6, 2) := by decide +kernel
theorem dX11_way_101 : decode cX11_way 101 = .ok (.ifCond .eq 7, 3) := by decide +kernel
theorem dX11_way_104 : decode cX11_way 104 = .ok (.iconst 2, 1) := by decide +kernel
theorem dX11_way_105 : decode cX11_way 105 = .ok (.goto 4, 3) := by decide +kernel
theorem dX11_way_108 : decode cX11_way 108 = .ok (.iconst 0, 1) := by decide +kernel
theorem dX11_way_109 : decode cX11_way 109 = .ok (.iadd, 1) := by decide +kernel
theorem dX11_way_110 : decode cX11_way 110 = .ok (.ireturn, 1) := by decide +kernel
theorem dX11_chromaAt_0 : decode cX11_chromaAt 0 = .ok (.aload_n 0, 1) := by decide +kernel
theorem dX11_chromaAt_1 : decode cX11_chromaAt 1 = .ok (.iload_n 1, 1) := by decide +kernel
theorem dX11_chromaAt_2 : decode cX11_chromaAt 2 = .ok (.iload_n 2, 1) := by decide +kernel
theorem dX11_chromaAt_3 : decode cX11_chromaAt 3 = .ok (.invokevirtual 170, 3) := by decide +kernel
theorem dX11_chromaAt_6 : decode cX11_chromaAt 6 = .ok (.istore 4, 2) := by decide +kernel
theorem dX11_chromaAt_8 : decode cX11_chromaAt 8 = .ok (.iload_n 3, 1) := by decide +kernel
theorem dX11_chromaAt_9 : decode cX11_chromaAt 9 = .ok (.tableswitch 78 0 2 #[27, 50, 64], 27) := by decide +kernel
theorem dX11_chromaAt_36 : decode cX11_chromaAt 36 = .ok (.iconst 2, 1) := by decide +kernel
theorem dX11_chromaAt_37 : decode cX11_chromaAt 37 = .ok (.iload 4, 2) := by decide +kernel
theorem dX11_chromaAt_39 : decode cX11_chromaAt 39 = .ok (.imul, 1) := by decide +kernel
theorem dX11_chromaAt_40 : decode cX11_chromaAt 40 = .ok (.aload_n 0, 1) := by decide +kernel
theorem dX11_chromaAt_41 : decode cX11_chromaAt 41 = .ok (.iload_n 1, 1) := by decide +kernel
theorem dX11_chromaAt_42 : decode cX11_chromaAt 42 = .ok (.iload_n 2, 1) := by decide +kernel
theorem dX11_chromaAt_43 : decode cX11_chromaAt 43 = .ok (.iconst 2, 1) := by decide +kernel
theorem dX11_chromaAt_44 : decode cX11_chromaAt 44 = .ok (.isub, 1) := by decide +kernel
theorem dX11_chromaAt_45 : decode cX11_chromaAt 45 = .ok (.invokevirtual 170, 3) := by decide +kernel
theorem dX11_chromaAt_48 : decode cX11_chromaAt 48 = .ok (.isub, 1) := by decide +kernel
theorem dX11_chromaAt_49 : decode cX11_chromaAt 49 = .ok (.aload_n 0, 1) := by decide +kernel
theorem dX11_chromaAt_50 : decode cX11_chromaAt 50 = .ok (.iload_n 1, 1) := by decide +kernel
theorem dX11_chromaAt_51 : decode cX11_chromaAt 51 = .ok (.iload_n 2, 1) := by decide +kernel
theorem dX11_chromaAt_52 : decode cX11_chromaAt 52 = .ok (.iconst 2, 1) := by decide +kernel
theorem dX11_chromaAt_53 : decode cX11_chromaAt 53 = .ok (.iadd, 1) := by decide +kernel
theorem dX11_chromaAt_54 : decode cX11_chromaAt 54 = .ok (.invokevirtual 170, 3) := by decide +kernel
theorem dX11_chromaAt_57 : decode cX11_chromaAt 57 = .ok (.isub, 1) := by decide +kernel
theorem dX11_chromaAt_58 : decode cX11_chromaAt 58 = .ok (.ireturn, 1) := by decide +kernel
theorem dX11_chromaAt_59 : decode cX11_chromaAt 59 = .ok (.iconst 2, 1) := by decide +kernel
theorem dX11_chromaAt_60 : decode cX11_chromaAt 60 = .ok (.iload 4, 2) := by decide +kernel
theorem dX11_chromaAt_62 : decode cX11_chromaAt 62 = .ok (.aload_n 0, 1) := by decide +kernel
theorem dX11_chromaAt_63 : decode cX11_chromaAt 63 = .ok (.iload_n 1, 1) := by decide +kernel
theorem dX11_chromaAt_64 : decode cX11_chromaAt 64 = .ok (.iconst 1, 1) := by decide +kernel
theorem dX11_chromaAt_65 : decode cX11_chromaAt 65 = .ok (.isub, 1) := by decide +kernel
theorem dX11_chromaAt_66 : decode cX11_chromaAt 66 = .ok (.iload_n 2, 1) := by decide +kernel
theorem dX11_chromaAt_67 : decode cX11_chromaAt 67 = .ok (.invokevirtual 170, 3) := by decide +kernel
theorem dX11_chromaAt_70 : decode cX11_chromaAt 70 = .ok (.isub, 1) := by decide +kernel
theorem dX11_chromaAt_71 : decode cX11_chromaAt 71 = .ok (.imul, 1) := by decide +kernel
theorem dX11_chromaAt_72 : decode cX11_chromaAt 72 = .ok (.ireturn, 1) := by decide +kernel
theorem dX11_chromaAt_73 : decode cX11_chromaAt 73 = .ok (.iconst 2, 1) := by decide +kernel
theorem dX11_chromaAt_74 : decode cX11_chromaAt 74 = .ok (.iload 4, 2) := by decide +kernel
theorem dX11_chromaAt_76 : decode cX11_chromaAt 76 = .ok (.aload_n 0, 1) := by decide +kernel
theorem dX11_chromaAt_77 : decode cX11_chromaAt 77 = .ok (.iload_n 1, 1) := by decide +kernel
theorem dX11_chromaAt_78 : decode cX11_chromaAt 78 = .ok (.iconst 1, 1) := by decide +kernel
theorem dX11_chromaAt_79 : decode cX11_chromaAt 79 = .ok (.iadd, 1) := by decide +kernel
theorem dX11_chromaAt_80 : decode cX11_chromaAt 80 = .ok (.iload_n 2, 1) := by decide +kernel
theorem dX11_chromaAt_81 : decode cX11_chromaAt 81 = .ok (.invokevirtual 170, 3) := by decide +kernel
theorem dX11_chromaAt_84 : decode cX11_chromaAt 84 = .ok (.isub, 1) := by decide +kernel
theorem dX11_chromaAt_85 : decode cX11_chromaAt 85 = .ok (.imul, 1) := by decide +kernel
theorem dX11_chromaAt_86 : decode cX11_chromaAt 86 = .ok (.ireturn, 1) := by decide +kernel
theorem dX11_chromaAt_87 : decode cX11_chromaAt 87 = .ok (.iconst 2, 1) := by decide +kernel
theorem dX11_chromaAt_88 : decode cX11_chromaAt 88 = .ok (.iload 4, 2) := by decide +kernel
theorem dX11_chromaAt_90 : decode cX11_chromaAt 90 = .ok (.imul, 1) := by decide +kernel
theorem dX11_chromaAt_91 : decode cX11_chromaAt 91 = .ok (.aload_n 0, 1) := by decide +kernel
theorem dX11_chromaAt_92 : decode cX11_chromaAt 92 = .ok (.iload_n 1, 1) := by decide +kernel
theorem dX11_chromaAt_93 : decode cX11_chromaAt 93 = .ok (.iconst 1, 1) := by decide +kernel
theorem dX11_chromaAt_94 : decode cX11_chromaAt 94 = .ok (.isub, 1) := by decide +kernel
theorem dX11_chromaAt_95 : decode cX11_chromaAt 95 = .ok (.iload_n 2, 1) := by decide +kernel
theorem dX11_chromaAt_96 : decode cX11_chromaAt 96 = .ok (.invokevirtual 170, 3) := by decide +kernel
theorem dX11_chromaAt_99 : decode cX11_chromaAt 99 = .ok (.isub, 1) := by decide +kernel
theorem dX11_chromaAt_100 : decode cX11_chromaAt 100 = .ok (.aload_n 0, 1) := by decide +kernel
theorem dX11_chromaAt_101 : decode cX11_chromaAt 101 = .ok (.iload_n 1, 1) := by decide +kernel
theorem dX11_chromaAt_102 : decode cX11_chromaAt 102 = .ok (.iconst 1, 1) := by decide +kernel
theorem dX11_chromaAt_103 : decode cX11_chromaAt 103 = .ok (.iadd, 1) := by decide +kernel
theorem dX11_chromaAt_104 : decode cX11_chromaAt 104 = .ok (.iload_n 2, 1) := by decide +kernel
theorem dX11_chromaAt_105 : decode cX11_chromaAt 105 = .ok (.invokevirtual 170, 3) := by decide +kernel
theorem dX11_chromaAt_108 : decode cX11_chromaAt 108 = .ok (.isub, 1) := by decide +kernel
theorem dX11_chromaAt_109 : decode cX11_chromaAt 109 = .ok (.ireturn, 1) := by decide +kernel
theorem dX11_comb_0 : decode cX11_comb 0 = .ok (.bipush 10, 2) := by decide +kernel
theorem dX11_comb_2 : decode cX11_comb 2 = .ok (.iload_n 1, 1) := by decide +kernel
theorem dX11_comb_3 : decode cX11_comb 3 = .ok (.imul, 1) := by decide +kernel
theorem dX11_comb_4 : decode cX11_comb 4 = .ok (.iload_n 2, 1) := by decide +kernel
theorem dX11_comb_5 : decode cX11_comb 5 = .ok (.iadd, 1) := by decide +kernel
theorem dX11_comb_6 : decode cX11_comb 6 = .ok (.istore 4, 2) := by decide +kernel
theorem dX11_comb_8 : decode cX11_comb 8 = .ok (.aload_n 0, 1) := by decide +kernel
theorem dX11_comb_9 : decode cX11_comb 9 = .ok (.getfield 82, 3) := by decide +kernel
theorem dX11_comb_12 : decode cX11_comb 12 = .ok (.iload 4, 2) := by decide +kernel
theorem dX11_comb_14 : decode cX11_comb 14 = .ok (.aload_n 0, 1) := by decide +kernel
theorem dX11_comb_15 : decode cX11_comb 15 = .ok (.iload_n 1, 1) := by decide +kernel
theorem dX11_comb_16 : decode cX11_comb 16 = .ok (.iload_n 2, 1) := by decide +kernel
theorem dX11_comb_17 : decode cX11_comb 17 = .ok (.iload_n 3, 1) := by decide +kernel
theorem dX11_comb_18 : decode cX11_comb 18 = .ok (.invokevirtual 179, 3) := by decide +kernel
theorem dX11_comb_21 : decode cX11_comb 21 = .ok (.iastore, 1) := by decide +kernel
theorem dX11_comb_22 : decode cX11_comb 22 = .ok (.iconst 0, 1) := by decide +kernel
theorem dX11_comb_23 : decode cX11_comb 23 = .ok (.istore 5, 2) := by decide +kernel
theorem dX11_comb_25 : decode cX11_comb 25 = .ok (.iconst 0, 1) := by decide +kernel
theorem dX11_comb_26 : decode cX11_comb 26 = .ok (.istore 6, 2) := by decide +kernel
theorem dX11_comb_28 : decode cX11_comb 28 = .ok (.iconst 0, 1) := by decide +kernel
theorem dX11_comb_29 : decode cX11_comb 29 = .ok (.istore 7, 2) := by decide +kernel
theorem dX11_comb_31 : decode cX11_comb 31 = .ok (.iconst 0, 1) := by decide +kernel
theorem dX11_comb_32 : decode cX11_comb 32 = .ok (.istore 8, 2) := by decide +kernel
theorem dX11_comb_34 : decode cX11_comb 34 = .ok (.iload 8, 2) := by decide +kernel
theorem dX11_comb_36 : decode cX11_comb 36 = .ok (.bipush 8, 2) := by decide +kernel
theorem dX11_comb_38 : decode cX11_comb 38 = .ok (.if_icmp .ge 108, 3) := by decide +kernel
theorem dX11_comb_41 : decode cX11_comb 41 = .ok (.bipush 16, 2) := by decide +kernel
theorem dX11_comb_43 : decode cX11_comb 43 = .ok (.bipush 8, 2) := by decide +kernel
theorem dX11_comb_45 : decode cX11_comb 45 = .ok (.iload_n 2, 1) := by decide +kernel
theorem dX11_comb_46 : decode cX11_comb 46 = .ok (.imul, 1) := by decide +kernel
theorem dX11_comb_47 : decode cX11_comb 47 = .ok (.iadd, 1) := by decide +kernel
theorem dX11_comb_48 : decode cX11_comb 48 = .ok (.iload 8, 2) := by decide +kernel
theorem dX11_comb_50 : decode cX11_comb 50 = .ok (.iadd, 1) := by decide +kernel
theorem dX11_comb_51 : decode cX11_comb 51 = .ok (.istore 9, 2) := by decide +kernel
theorem dX11_comb_53 : decode cX11_comb 53 = .ok (.aload_n 0, 1) := by decide +kernel
theorem dX11_comb_54 : decode cX11_comb 54 = .ok (.getfield 97, 3) := by decide +kernel
theorem dX11_comb_57 : decode cX11_comb 57 = .ok (.iload 8, 2) := by decide +kernel
theorem dX11_comb_59 : decode cX11_comb 59 = .ok (.aload_n 0, 1) := by decide +kernel
theorem dX11_comb_60 : decode cX11_comb 60 = .ok (.iload_n 1, 1) := by decide +kernel
theorem dX11_comb_61 : decode cX11_comb 61 = .ok (.iload 9, 2) := by decide +kernel
theorem dX11_comb_63 : decode cX11_comb 63 = .ok (.aload_n 0, 1) := by decide +kernel
theorem dX11_comb_64 : decode cX11_comb 64 = .ok (.getfield 82, 3) := by decide +kernel
theorem dX11_comb_67 : decode cX11_comb 67 = .ok (.iload 4, 2) := by decide +kernel
theorem dX11_comb_69 : decode cX11_comb 69 = .ok (.iaload, 1) := by decide +kernel
theorem dX11_comb_70 : decode cX11_comb 70 = .ok (.invokevirtual 183, 3) := by decide +kernel
theorem dX11_comb_73 : decode cX11_comb 73 = .ok (.iastore, 1) := by decide +kernel
theorem dX11_comb_74 : decode cX11_comb 74 = .ok (.aload_n 0, 1) := by decide +kernel
theorem dX11_comb_75 : decode cX11_comb 75 = .ok (.getfield 48, 3) := by decide +kernel
theorem dX11_comb_78 : decode cX11_comb 78 = .ok (.iload_n 1, 1) := by decide +kernel
theorem dX11_comb_79 : decode cX11_comb 79 = .ok (.iaload, 1) := by decide +kernel
theorem dX11_comb_80 : decode cX11_comb 80 = .ok (.iload 9, 2) := by decide +kernel
theorem dX11_comb_82 : decode cX11_comb 82 = .ok (.iadd, 1) := by decide +kernel
theorem dX11_comb_83 : decode cX11_comb 83 = .ok (.iconst 2, 1) := by decide +kernel
theorem dX11_comb_84 : decode cX11_comb 84 = .ok (.iload_n 1, 1) := by decide +kernel
theorem dX11_comb_85 : decode cX11_comb 85 = .ok (.imul, 1) := by decide +kernel
theorem dX11_comb_86 : decode cX11_comb 86 = .ok (.iadd, 1) := by decide +kernel
theorem dX11_comb_87 : decode cX11_comb 87 = .ok (.invokestatic 141, 3) := by decide +kernel
theorem dX11_comb_90 : decode cX11_comb 90 = .ok (.istore 10, 2) := by decide +kernel
theorem dX11_comb_92 : decode cX11_comb 92 = .ok (.iload 5, 2) := by decide +kernel
theorem dX11_comb_94 : decode cX11_comb 94 = .ok (.aload_n 0, 1) := by decide +kernel
theorem dX11_comb_95 : decode cX11_comb 95 = .ok (.getfield 97, 3) := by decide +kernel
theorem dX11_comb_98 : decode cX11_comb 98 = .ok (.iload 8, 2) := by decide +kernel
theorem dX11_comb_100 : decode cX11_comb 100 = .ok (.iaload, 1) := by decide +kernel
theorem dX11_comb_101 : decode cX11_comb 101 = .ok (.iadd, 1) := by decide +kernel
theorem dX11_comb_102 : decode cX11_comb 102 = .ok (.istore 5, 2) := by decide +kernel
theorem dX11_comb_104 : decode cX11_comb 104 = .ok (.iload 6, 2) := by decide +kernel
theorem dX11_comb_106 : decode cX11_comb 106 = .ok (.aload_n 0, 1) := by decide +kernel
theorem dX11_comb_107 : decode cX11_comb 107 = .ok (.getfield 97, 3) := by decide +kernel
theorem dX11_comb_110 : decode cX11_comb 110 = .ok (.iload 8, 2) := by decide +kernel
theorem dX11_comb_112 : decode cX11_comb 112 = .ok (.iaload, 1) := by decide +kernel
theorem dX11_comb_113 : decode cX11_comb 113 = .ok (.iload 10, 2) := by decide +kernel
theorem dX11_comb_115 : decode cX11_comb 115 = .ok (.invokestatic 145, 3) := by decide +kernel
theorem dX11_comb_118 : decode cX11_comb 118 = .ok (.imul, 1) := by decide +kernel
theorem dX11_comb_119 : decode cX11_comb 119 = .ok (.iadd, 1) := by decide +kernel
theorem dX11_comb_120 : decode cX11_comb 120 = .ok (.istore 6, 2) := by decide +kernel
theorem dX11_comb_122 : decode cX11_comb 122 = .ok (.iload 7, 2) := by decide +kernel
theorem dX11_comb_124 : decode cX11_comb 124 = .ok (.aload_n 0, 1) := by decide +kernel
theorem dX11_comb_125 : decode cX11_comb 125 = .ok (.getfield 97, 3) := by decide +kernel
theorem dX11_comb_128 : decode cX11_comb 128 = .ok (.iload 8, 2) := by decide +kernel
theorem dX11_comb_130 : decode cX11_comb 130 = .ok (.iaload, 1) := by decide +kernel
theorem dX11_comb_131 : decode cX11_comb 131 = .ok (.iload 10, 2) := by decide +kernel
theorem dX11_comb_133 : decode cX11_comb 133 = .ok (.invokestatic 148, 3) := by decide +kernel
theorem dX11_comb_136 : decode cX11_comb 136 = .ok (.imul, 1) := by decide +kernel
theorem dX11_comb_137 : decode cX11_comb 137 = .ok (.iadd, 1) := by decide +kernel
theorem dX11_comb_138 : decode cX11_comb 138 = .ok (.istore 7, 2) := by decide +kernel
theorem dX11_comb_140 : decode cX11_comb 140 = .ok (.iinc 8 1, 3) := by decide +kernel
theorem dX11_comb_143 : decode cX11_comb 143 = .ok (.goto (-109), 3) := by decide +kernel
theorem dX11_comb_146 : decode cX11_comb 146 = .ok (.aload_n 0, 1) := by decide +kernel
theorem dX11_comb_147 : decode cX11_comb 147 = .ok (.getfield 76, 3) := by decide +kernel
theorem dX11_comb_150 : decode cX11_comb 150 = .ok (.iload 4, 2) := by decide +kernel
theorem dX11_comb_152 : decode cX11_comb 152 = .ok (.iconst 4, 1) := by decide +kernel
theorem dX11_comb_153 : decode cX11_comb 153 = .ok (.aload_n 0, 1) := by decide +kernel
theorem dX11_comb_154 : decode cX11_comb 154 = .ok (.iload_n 1, 1) := by decide +kernel
theorem dX11_comb_155 : decode cX11_comb 155 = .ok (.iload_n 2, 1) := by decide +kernel
theorem dX11_comb_156 : decode cX11_comb 156 = .ok (.invokevirtual 173, 3) := by decide +kernel
theorem dX11_comb_159 : decode cX11_comb 159 = .ok (.imul, 1) := by decide +kernel
theorem dX11_comb_160 : decode cX11_comb 160 = .ok (.iload 5, 2) := by decide +kernel
theorem dX11_comb_162 : decode cX11_comb 162 = .ok (.isub, 1) := by decide +kernel
theorem dX11_comb_163 : decode cX11_comb 163 = .ok (.bipush 32, 2) := by decide +kernel
theorem dX11_comb_165 : decode cX11_comb 165 = .ok (.invokestatic 157, 3) := by decide +kernel
theorem dX11_comb_168 : decode cX11_comb 168 = .ok (.iastore, 1) := by decide +kernel
theorem dX11_comb_169 : decode cX11_comb 169 = .ok (.iload 6, 2) := by decide +kernel
theorem dX11_comb_171 : decode cX11_comb 171 = .ok (.i2f, 1) := by decide +kernel
theorem dX11_comb_172 : decode cX11_comb 172 = .ok (.ldc 186, 2) := by decide +kernel
theorem dX11_comb_174 : decode cX11_comb 174 = .ok (.fdiv, 1) := by decide +kernel
theorem dX11_comb_175 : decode cX11_comb 175 = .ok (.fstore 8, 2) := by decide +kernel
theorem dX11_comb_177 : decode cX11_comb 177 = .ok (.iload 7, 2) := by decide +kernel
theorem dX11_comb_179 : decode cX11_comb 179 = .ok (.i2f, 1) := by decide +kernel
theorem dX11_comb_180 : decode cX11_comb 180 = .ok (.ldc 186, 2) := by decide +kernel
theorem dX11_comb_182 : decode cX11_comb 182 = .ok (.fdiv, 1) := by decide +kernel
theorem dX11_comb_183 : decode cX11_comb 183 = .ok (.fstore 9, 2) := by decide +kernel
theorem dX11_comb_185 : decode cX11_comb 185 = .ok (.aload_n 0, 1) := by decide +kernel
theorem dX11_comb_186 : decode cX11_comb 186 = .ok (.getfield 69, 3) := by decide +kernel
theorem dX11_comb_189 : decode cX11_comb 189 = .ok (.iload_n 1, 1) := by decide +kernel
theorem dX11_comb_190 : decode cX11_comb 190 = .ok (.faload, 1) := by decide +kernel
theorem dX11_comb_191 : decode cX11_comb 191 = .ok (.fstore 10, 2) := by decide +kernel
theorem dX11_comb_193 : decode cX11_comb 193 = .ok (.aload_n 0, 1) := by decide +kernel
theorem dX11_comb_194 : decode cX11_comb 194 = .ok (.getfield 73, 3) := by decide +kernel
theorem dX11_comb_197 : decode cX11_comb 197 = .ok (.iload_n 1, 1) := by decide +kernel
theorem dX11_comb_198 : decode cX11_comb 198 = .ok (.faload, 1) := by decide +kernel
theorem dX11_comb_199 : decode cX11_comb 199 = .ok (.fstore 11, 2) := by decide +kernel
theorem dX11_comb_201 : decode cX11_comb 201 = .ok (.fload 10, 2) := by decide +kernel
theorem dX11_comb_203 : decode cX11_comb 203 = .ok (.fload 10, 2) := by decide +kernel
theorem dX11_comb_205 : decode cX11_comb 205 = .ok (.fmul, 1) := by decide +kernel
theorem dX11_comb_206 : decode cX11_comb 206 = .ok (.fload 11, 2) := by decide +kernel
theorem dX11_comb_208 : decode cX11_comb 208 = .ok (.fload 11, 2) := by decide +kernel
theorem dX11_comb_210 : decode cX11_comb 210 = .ok (.fmul, 1) := by decide +kernel
theorem dX11_comb_211 : decode cX11_comb 211 = .ok (.fadd, 1) := by decide +kernel
theorem dX11_comb_212 : decode cX11_comb 212 = .ok (.fstore 12, 2) := by decide +kernel
theorem dX11_comb_214 : decode cX11_comb 214 = .ok (.aload_n 0, 1) := by decide +kernel
theorem dX11_comb_215 : decode cX11_comb 215 = .ok (.getfield 66, 3) := by decide +kernel
theorem dX11_comb_218 : decode cX11_comb 218 = .ok (.iload_n 1, 1) := by decide +kernel
theorem dX11_comb_219 : decode cX11_comb 219 = .ok (.baload, 1) := by decide +kernel
theorem dX11_comb_220 : decode cX11_comb 220 = .ok (.ifCond .eq 14, 3) := by decide +kernel
theorem dX11_comb_223 : decode cX11_comb 223 = .ok (.fload 12, 2) := by decide +kernel
theorem dX11_comb_225 : decode cX11_comb 225 = .ok (.fconst 0, 1) := by decide +kernel
theorem dX11_comb_226 : decode cX11_comb 226 = .ok (.fcmp .l, 1) := by decide +kernel
theorem dX11_comb_227 : decode cX11_comb 227 = .ok (.ifCond .eq 7, 3) := by decide +kernel
theorem dX11_comb_230 : decode cX11_comb 230 = .ok (.iconst 1, 1) := by decide +kernel
theorem dX11_comb_231 : decode cX11_comb 231 = .ok (.goto 4, 3) := by decide +kernel
theorem dX11_comb_234 : decode cX11_comb 234 = .ok (.iconst 0, 1) := by decide +kernel
theorem dX11_comb_235 : decode cX11_comb 235 = .ok (.istore 13, 2) := by decide +kernel
theorem dX11_comb_237 : decode cX11_comb 237 = .ok (.iload 13, 2) := by decide +kernel
theorem dX11_comb_239 : decode cX11_comb 239 = .ok (.ifCond .eq 23, 3) := by decide +kernel
theorem dX11_comb_242 : decode cX11_comb 242 = .ok (.fload 8, 2) := by decide +kernel
theorem dX11_comb_244 : decode cX11_comb 244 = .ok (.fload 10, 2) := by decide +kernel
theorem dX11_comb_246 : decode cX11_comb 246 = .ok (.fmul, 1) := by decide +kernel
theorem dX11_comb_247 : decode cX11_comb 247 = .ok (.fload 9, 2) := by decide +kernel
theorem dX11_comb_249 : decode cX11_comb 249 = .ok (.fload 11, 2) := by decide +kernel
theorem dX11_comb_251 : decode cX11_comb 251 = .ok (.fmul, 1) := by decide +kernel
theorem dX11_comb_252 : decode cX11_comb 252 = .ok (.fadd, 1) := by decide +kernel
theorem dX11_comb_253 : decode cX11_comb 253 = .ok (.ldc 187, 2) := by decide +kernel
theorem dX11_comb_255 : decode cX11_comb 255 = .ok (.fmul, 1) := by decide +kernel
theorem dX11_comb_256 : decode cX11_comb 256 = .ok (.fload 12, 2) := by decide +kernel
theorem dX11_comb_258 : decode cX11_comb 258 = .ok (.fdiv, 1) := by decide +kernel
theorem dX11_comb_259 : decode cX11_comb 259 = .ok (.goto 4, 3) := by decide +kernel
theorem dX11_comb_262 : decode cX11_comb 262 = .ok (.fconst 0, 1) := by decide +kernel
theorem dX11_comb_263 : decode cX11_comb 263 = .ok (.fstore 14, 2) := by decide +kernel
theorem dX11_comb_265 : decode cX11_comb 265 = .ok (.iload 13, 2) := by decide +kernel
theorem dX11_comb_267 : decode cX11_comb 267 = .ok (.ifCond .eq 23, 3) := by decide +kernel
theorem dX11_comb_270 : decode cX11_comb 270 = .ok (.fload 9, 2) := by decide +kernel
theorem dX11_comb_272 : decode cX11_comb 272 = .ok (.fload 10, 2) := by decide +kernel
theorem dX11_comb_274 : decode cX11_comb 274 = .ok (.fmul, 1) := by decide +kernel
theorem dX11_comb_275 : decode cX11_comb 275 = .ok (.fload 8, 2) := by decide +kernel
theorem dX11_comb_277 : decode cX11_comb 277 = .ok (.fload 11, 2) := by decide +kernel
theorem dX11_comb_279 : decode cX11_comb 279 = .ok (.fmul, 1) := by decide +kernel
theorem dX11_comb_280 : decode cX11_comb 280 = .ok (.fsub, 1) := by decide +kernel
theorem dX11_comb_281 : decode cX11_comb 281 = .ok (.ldc 187, 2) := by decide +kernel
theorem dX11_comb_283 : decode cX11_comb 283 = .ok (.fmul, 1) := by decide +kernel
theorem dX11_comb_284 : decode cX11_comb 284 = .ok (.fload 12, 2) := by decide +kernel
theorem dX11_comb_286 : decode cX11_comb 286 = .ok (.fdiv, 1) := by decide +kernel
theorem dX11_comb_287 : decode cX11_comb 287 = .ok (.goto 4, 3) := by decide +kernel
theorem dX11_comb_290 : decode cX11_comb 290 = .ok (.fconst 0, 1) := by decide +kernel
theorem dX11_comb_291 : decode cX11_comb 291 = .ok (.fstore 15, 2) := by decide +kernel
theorem dX11_comb_293 : decode cX11_comb 293 = .ok (.aload_n 0, 1) := by decide +kernel
theorem dX11_comb_294 : decode cX11_comb 294 = .ok (.getfield 85, 3) := by decide +kernel
theorem dX11_comb_297 : decode cX11_comb 297 = .ok (.iload 4, 2) := by decide +kernel
theorem dX11_comb_299 : decode cX11_comb 299 = .ok (.fload 14, 2) := by decide +kernel
theorem dX11_comb_301 : decode cX11_comb 301 = .ok (.fastore, 1) := by decide +kernel
theorem dX11_comb_302 : decode cX11_comb 302 = .ok (.aload_n 0, 1) := by decide +kernel
theorem dX11_comb_303 : decode cX11_comb 303 = .ok (.getfield 88, 3) := by decide +kernel
theorem dX11_comb_306 : decode cX11_comb 306 = .ok (.iload 4, 2) := by decide +kernel
theorem dX11_comb_308 : decode cX11_comb 308 = .ok (.iload_n 3, 1) := by decide +kernel
theorem dX11_comb_309 : decode cX11_comb 309 = .ok (.iconst 1, 1) := by decide +kernel
end
section
/-! decode rows, part 4 -/
theorem dX11_comb_310 : decode cX11_comb 310 = .ok (.if_icmp .ne 17, 3) := by decide +kernel
theorem dX11_comb_313 : decode cX11_comb 313 = .ok (.iload_n 1, 1) := by decide +kernel
theorem dX11_comb_314 : decode cX11_comb 314 = .ok (.iconst 2, 1) := by decide +kernel
theorem dX11_comb_315 : decode cX11_comb 315 = .ok (.irem, 1) := by decide +kernel
theorem dX11_comb_316 : decode cX11_comb 316 = .ok (.iconst 1, 1) := by decide +kernel
theorem dX11_comb_317 : decode cX11_comb 317 = .ok (.if_icmp .ne 10, 3) := by decide +kernel
theorem dX11_comb_320 : decode cX11_comb 320 = .ok (.fconst 0, 1) := by decide +kernel
theorem dX11_comb_321 : decode cX11_comb 321 = .ok (.fload 15, 2) := by decide +kernel
theorem dX11_comb_323 : decode cX11_comb 323 = .ok (.fsub, 1) := by decide +kernel
theorem dX11_comb_324 : decode cX11_comb 324 = .ok (.goto 5, 3) := by decide +kernel
theorem dX11_comb_327 : decode cX11_comb 327 = .ok (.fload 15, 2) := by decide +kernel
theorem dX11_comb_329 : decode cX11_comb 329 = .ok (.fastore, 1) := by decide +kernel
theorem dX11_comb_330 : decode cX11_comb 330 = .ok (.iload_n 3, 1) := by decide +kernel
theorem dX11_comb_331 : decode cX11_comb 331 = .ok (.ifCond .eq 7, 3) := by decide +kernel
theorem dX11_comb_334 : decode cX11_comb 334 = .ok (.iload_n 1, 1) := by decide +kernel
theorem dX11_comb_335 : decode cX11_comb 335 = .ok (.ifCond .ne 7, 3) := by decide +kernel
theorem dX11_comb_338 : decode cX11_comb 338 = .ok (.iconst 1, 1) := by decide +kernel
theorem dX11_comb_339 : decode cX11_comb 339 = .ok (.goto 4, 3) := by decide +kernel
theorem dX11_comb_342 : decode cX11_comb 342 = .ok (.iconst 0, 1) := by decide +kernel
theorem dX11_comb_343 : decode cX11_comb 343 = .ok (.istore 16, 2) := by decide +kernel
theorem dX11_comb_345 : decode cX11_comb 345 = .ok (.aload_n 0, 1) := by decide +kernel
theorem dX11_comb_346 : decode cX11_comb 346 = .ok (.getfield 91, 3) := by decide +kernel
theorem dX11_comb_349 : decode cX11_comb 349 = .ok (.iload 4, 2) := by decide +kernel
theorem dX11_comb_351 : decode cX11_comb 351 = .ok (.iload 16, 2) := by decide +kernel
theorem dX11_comb_353 : decode cX11_comb 353 = .ok (.ifCond .eq 13, 3) := by decide +kernel
theorem dX11_comb_356 : decode cX11_comb 356 = .ok (.aload_n 0, 1) := by decide +kernel
theorem dX11_comb_357 : decode cX11_comb 357 = .ok (.getfield 85, 3) := by decide +kernel
theorem dX11_comb_360 : decode cX11_comb 360 = .ok (.iload 4, 2) := by decide +kernel
theorem dX11_comb_362 : decode cX11_comb 362 = .ok (.faload, 1) := by decide +kernel
theorem dX11_comb_363 : decode cX11_comb 363 = .ok (.goto 24, 3) := by decide +kernel
theorem dX11_comb_366 : decode cX11_comb 366 = .ok (.aload_n 0, 1) := by decide +kernel
theorem dX11_comb_367 : decode cX11_comb 367 = .ok (.getfield 85, 3) := by decide +kernel
theorem dX11_comb_370 : decode cX11_comb 370 = .ok (.iload 4, 2) := by decide +kernel
theorem dX11_comb_372 : decode cX11_comb 372 = .ok (.faload, 1) := by decide +kernel
theorem dX11_comb_373 : decode cX11_comb 373 = .ok (.aload_n 0, 1) := by decide +kernel
theorem dX11_comb_374 : decode cX11_comb 374 = .ok (.getfield 85, 3) := by decide +kernel
theorem dX11_comb_377 : decode cX11_comb 377 = .ok (.iload 4, 2) := by decide +kernel
theorem dX11_comb_379 : decode cX11_comb 379 = .ok (.bipush 10, 2) := by decide +kernel
theorem dX11_comb_381 : decode cX11_comb 381 = .ok (.isub, 1) := by decide +kernel
theorem dX11_comb_382 : decode cX11_comb 382 = .ok (.faload, 1) := by decide +kernel
theorem dX11_comb_383 : decode cX11_comb 383 = .ok (.fadd, 1) := by decide +kernel
theorem dX11_comb_384 : decode cX11_comb 384 = .ok (.ldc 188, 2) := by decide +kernel
theorem dX11_comb_386 : decode cX11_comb 386 = .ok (.fmul, 1) := by decide +kernel
theorem dX11_comb_387 : decode cX11_comb 387 = .ok (.fastore, 1) := by decide +kernel
theorem dX11_comb_388 : decode cX11_comb 388 = .ok (.aload_n 0, 1) := by decide +kernel
theorem dX11_comb_389 : decode cX11_comb 389 = .ok (.getfield 94, 3) := by decide +kernel
theorem dX11_comb_392 : decode cX11_comb 392 = .ok (.iload 4, 2) := by decide +kernel
theorem dX11_comb_394 : decode cX11_comb 394 = .ok (.iload 16, 2) := by decide +kernel
theorem dX11_comb_396 : decode cX11_comb 396 = .ok (.ifCond .eq 13, 3) := by decide +kernel
theorem dX11_comb_399 : decode cX11_comb 399 = .ok (.aload_n 0, 1) := by decide +kernel
theorem dX11_comb_400 : decode cX11_comb 400 = .ok (.getfield 88, 3) := by decide +kernel
theorem dX11_comb_403 : decode cX11_comb 403 = .ok (.iload 4, 2) := by decide +kernel
theorem dX11_comb_405 : decode cX11_comb 405 = .ok (.faload, 1) := by decide +kernel
theorem dX11_comb_406 : decode cX11_comb 406 = .ok (.goto 24, 3) := by decide +kernel
theorem dX11_comb_409 : decode cX11_comb 409 = .ok (.aload_n 0, 1) := by decide +kernel
theorem dX11_comb_410 : decode cX11_comb 410 = .ok (.getfield 88, 3) := by decide +kernel
theorem dX11_comb_413 : decode cX11_comb 413 = .ok (.iload 4, 2) := by decide +kernel
theorem dX11_comb_415 : decode cX11_comb 415 = .ok (.faload, 1) := by decide +kernel
theorem dX11_comb_416 : decode cX11_comb 416 = .ok (.aload_n 0, 1) := by decide +kernel
theorem dX11_comb_417 : decode cX11_comb 417 = .ok (.getfield 88, 3) := by decide +kernel
theorem dX11_comb_420 : decode cX11_comb 420 = .ok (.iload 4, 2) := by decide +kernel
theorem dX11_comb_422 : decode cX11_comb 422 = .ok (.bipush 10, 2) := by decide +kernel
theorem dX11_comb_424 : decode cX11_comb 424 = .ok (.isub, 1) := by decide +kernel
theorem dX11_comb_425 : decode cX11_comb 425 = .ok (.faload, 1) := by decide +kernel
theorem dX11_comb_426 : decode cX11_comb 426 = .ok (.fadd, 1) := by decide +kernel
theorem dX11_comb_427 : decode cX11_comb 427 = .ok (.ldc 188, 2) := by decide +kernel
theorem dX11_comb_429 : decode cX11_comb 429 = .ok (.fmul, 1) := by decide +kernel
theorem dX11_comb_430 : decode cX11_comb 430 = .ok (.fastore, 1) := by decide +kernel
theorem dX11_comb_431 : decode cX11_comb 431 = .ok (.return_, 1) := by decide +kernel
theorem dX11_findMotion_0 : decode cX11_findMotion 0 = .ok (.iconst 0, 1) := by decide +kernel
theorem dX11_findMotion_1 : decode cX11_findMotion 1 = .ok (.istore_n 1, 1) := by decide +kernel
theorem dX11_findMotion_2 : decode cX11_findMotion 2 = .ok (.iload_n 1, 1) := by decide +kernel
theorem dX11_findMotion_3 : decode cX11_findMotion 3 = .ok (.bipush 80, 2) := by decide +kernel
theorem dX11_findMotion_5 : decode cX11_findMotion 5 = .ok (.if_icmp .ge 53, 3) := by decide +kernel
theorem dX11_findMotion_8 : decode cX11_findMotion 8 = .ok (.aload_n 0, 1) := by decide +kernel
theorem dX11_findMotion_9 : decode cX11_findMotion 9 = .ok (.getfield 100, 3) := by decide +kernel
theorem dX11_findMotion_12 : decode cX11_findMotion 12 = .ok (.iload_n 1, 1) := by decide +kernel
theorem dX11_findMotion_13 : decode cX11_findMotion 13 = .ok (.aload_n 0, 1) := by decide +kernel
theorem dX11_findMotion_14 : decode cX11_findMotion 14 = .ok (.getfield 189, 3) := by decide +kernel
theorem dX11_findMotion_17 : decode cX11_findMotion 17 = .ok (.iconst 1, 1) := by decide +kernel
theorem dX11_findMotion_18 : decode cX11_findMotion 18 = .ok (.if_icmp .le 32, 3) := by decide +kernel
theorem dX11_findMotion_21 : decode cX11_findMotion 21 = .ok (.aload_n 0, 1) := by decide +kernel
theorem dX11_findMotion_22 : decode cX11_findMotion 22 = .ok (.getfield 76, 3) := by decide +kernel
theorem dX11_findMotion_25 : decode cX11_findMotion 25 = .ok (.iload_n 1, 1) := by decide +kernel
theorem dX11_findMotion_26 : decode cX11_findMotion 26 = .ok (.iaload, 1) := by decide +kernel
theorem dX11_findMotion_27 : decode cX11_findMotion 27 = .ok (.aload_n 0, 1) := by decide +kernel
theorem dX11_findMotion_28 : decode cX11_findMotion 28 = .ok (.getfield 79, 3) := by decide +kernel
theorem dX11_findMotion_31 : decode cX11_findMotion 31 = .ok (.iload_n 1, 1) := by decide +kernel
theorem dX11_findMotion_32 : decode cX11_findMotion 32 = .ok (.iaload, 1) := by decide +kernel
theorem dX11_findMotion_33 : decode cX11_findMotion 33 = .ok (.isub, 1) := by decide +kernel
theorem dX11_findMotion_34 : decode cX11_findMotion 34 = .ok (.invokestatic 160, 3) := by decide +kernel
theorem dX11_findMotion_37 : decode cX11_findMotion 37 = .ok (.aload_n 0, 1) := by decide +kernel
theorem dX11_findMotion_38 : decode cX11_findMotion 38 = .ok (.getfield 35, 3) := by decide +kernel
theorem dX11_findMotion_41 : decode cX11_findMotion 41 = .ok (.iconst 1, 1) := by decide +kernel
theorem dX11_findMotion_42 : decode cX11_findMotion 42 = .ok (.iaload, 1) := by decide +kernel
theorem dX11_findMotion_43 : decode cX11_findMotion 43 = .ok (.if_icmp .le 7, 3) := by decide +kernel
theorem dX11_findMotion_46 : decode cX11_findMotion 46 = .ok (.iconst 1, 1) := by decide +kernel
theorem dX11_findMotion_47 : decode cX11_findMotion 47 = .ok (.goto 4, 3) := by decide +kernel
theorem dX11_findMotion_50 : decode cX11_findMotion 50 = .ok (.iconst 0, 1) := by decide +kernel
theorem dX11_findMotion_51 : decode cX11_findMotion 51 = .ok (.bastore, 1) := by decide +kernel
theorem dX11_findMotion_52 : decode cX11_findMotion 52 = .ok (.iinc 1 1, 3) := by decide +kernel
theorem dX11_findMotion_55 : decode cX11_findMotion 55 = .ok (.goto (-53), 3) := by decide +kernel
theorem dX11_findMotion_58 : decode cX11_findMotion 58 = .ok (.return_, 1) := by decide +kernel
theorem dX11_motionAt_0 : decode cX11_motionAt 0 = .ok (.aload_n 0, 1) := by decide +kernel
theorem dX11_motionAt_1 : decode cX11_motionAt 1 = .ok (.getfield 100, 3) := by decide +kernel
theorem dX11_motionAt_4 : decode cX11_motionAt 4 = .ok (.iload_n 1, 1) := by decide +kernel
theorem dX11_motionAt_5 : decode cX11_motionAt 5 = .ok (.baload, 1) := by decide +kernel
theorem dX11_motionAt_6 : decode cX11_motionAt 6 = .ok (.ifCond .ne 5, 3) := by decide +kernel
theorem dX11_motionAt_9 : decode cX11_motionAt 9 = .ok (.iconst 0, 1) := by decide +kernel
theorem dX11_motionAt_10 : decode cX11_motionAt 10 = .ok (.ireturn, 1) := by decide +kernel
theorem dX11_motionAt_11 : decode cX11_motionAt 11 = .ok (.iload_n 1, 1) := by decide +kernel
theorem dX11_motionAt_12 : decode cX11_motionAt 12 = .ok (.bipush 10, 2) := by decide +kernel
theorem dX11_motionAt_14 : decode cX11_motionAt 14 = .ok (.irem, 1) := by decide +kernel
theorem dX11_motionAt_15 : decode cX11_motionAt 15 = .ok (.ifCond .le 18, 3) := by decide +kernel
theorem dX11_motionAt_18 : decode cX11_motionAt 18 = .ok (.aload_n 0, 1) := by decide +kernel
theorem dX11_motionAt_19 : decode cX11_motionAt 19 = .ok (.getfield 100, 3) := by decide +kernel
theorem dX11_motionAt_22 : decode cX11_motionAt 22 = .ok (.iload_n 1, 1) := by decide +kernel
theorem dX11_motionAt_23 : decode cX11_motionAt 23 = .ok (.iconst 1, 1) := by decide +kernel
theorem dX11_motionAt_24 : decode cX11_motionAt 24 = .ok (.isub, 1) := by decide +kernel
theorem dX11_motionAt_25 : decode cX11_motionAt 25 = .ok (.baload, 1) := by decide +kernel
theorem dX11_motionAt_26 : decode cX11_motionAt 26 = .ok (.ifCond .eq 7, 3) := by decide +kernel
theorem dX11_motionAt_29 : decode cX11_motionAt 29 = .ok (.iconst 1, 1) := by decide +kernel
theorem dX11_motionAt_30 : decode cX11_motionAt 30 = .ok (.goto 4, 3) := by decide +kernel
theorem dX11_motionAt_33 : decode cX11_motionAt 33 = .ok (.iconst 0, 1) := by decide +kernel
theorem dX11_motionAt_34 : decode cX11_motionAt 34 = .ok (.istore_n 2, 1) := by decide +kernel
theorem dX11_motionAt_35 : decode cX11_motionAt 35 = .ok (.iload_n 1, 1) := by decide +kernel
theorem dX11_motionAt_36 : decode cX11_motionAt 36 = .ok (.bipush 10, 2) := by decide +kernel
theorem dX11_motionAt_38 : decode cX11_motionAt 38 = .ok (.irem, 1) := by decide +kernel
theorem dX11_motionAt_39 : decode cX11_motionAt 39 = .ok (.bipush 9, 2) := by decide +kernel
theorem dX11_motionAt_41 : decode cX11_motionAt 41 = .ok (.if_icmp .ge 18, 3) := by decide +kernel
theorem dX11_motionAt_44 : decode cX11_motionAt 44 = .ok (.aload_n 0, 1) := by decide +kernel
theorem dX11_motionAt_45 : decode cX11_motionAt 45 = .ok (.getfield 100, 3) := by decide +kernel
theorem dX11_motionAt_48 : decode cX11_motionAt 48 = .ok (.iload_n 1, 1) := by decide +kernel
theorem dX11_motionAt_49 : decode cX11_motionAt 49 = .ok (.iconst 1, 1) := by decide +kernel
theorem dX11_motionAt_50 : decode cX11_motionAt 50 = .ok (.iadd, 1) := by decide +kernel
theorem dX11_motionAt_51 : decode cX11_motionAt 51 = .ok (.baload, 1) := by decide +kernel
theorem dX11_motionAt_52 : decode cX11_motionAt 52 = .ok (.ifCond .eq 7, 3) := by decide +kernel
theorem dX11_motionAt_55 : decode cX11_motionAt 55 = .ok (.iconst 1, 1) := by decide +kernel
theorem dX11_motionAt_56 : decode cX11_motionAt 56 = .ok (.goto 4, 3) := by decide +kernel
theorem dX11_motionAt_59 : decode cX11_motionAt 59 = .ok (.iconst 0, 1) := by decide +kernel
theorem dX11_motionAt_60 : decode cX11_motionAt 60 = .ok (.istore_n 3, 1) := by decide +kernel
theorem dX11_motionAt_61 : decode cX11_motionAt 61 = .ok (.iload_n 1, 1) := by decide +kernel
theorem dX11_motionAt_62 : decode cX11_motionAt 62 = .ok (.bipush 9, 2) := by decide +kernel
theorem dX11_motionAt_64 : decode cX11_motionAt 64 = .ok (.if_icmp .le 19, 3) := by decide +kernel
theorem dX11_motionAt_67 : decode cX11_motionAt 67 = .ok (.aload_n 0, 1) := by decide +kernel
theorem dX11_motionAt_68 : decode cX11_motionAt 68 = .ok (.getfield 100, 3) := by decide +kernel
theorem dX11_motionAt_71 : decode cX11_motionAt 71 = .ok (.iload_n 1, 1) := by decide +kernel
theorem dX11_motionAt_72 : decode cX11_motionAt 72 = .ok (.bipush 10, 2) := by decide +kernel
theorem dX11_motionAt_74 : decode cX11_motionAt 74 = .ok (.isub, 1) := by decide +kernel
theorem dX11_motionAt_75 : decode cX11_motionAt 75 = .ok (.baload, 1) := by decide +kernel
theorem dX11_motionAt_76 : decode cX11_motionAt 76 = .ok (.ifCond .eq 7, 3) := by decide +kernel
theorem dX11_motionAt_79 : decode cX11_motionAt 79 = .ok (.iconst 1, 1) := by decide +kernel
theorem dX11_motionAt_80 : decode cX11_motionAt 80 = .ok (.goto 4, 3) := by decide +kernel
theorem dX11_motionAt_83 : decode cX11_motionAt 83 = .ok (.iconst 0, 1) := by decide +kernel
theorem dX11_motionAt_84 : decode cX11_motionAt 84 = .ok (.istore 4, 2) := by decide +kernel
theorem dX11_motionAt_86 : decode cX11_motionAt 86 = .ok (.iload_n 1, 1) := by decide +kernel
theorem dX11_motionAt_87 : decode cX11_motionAt 87 = .ok (.bipush 70, 2) := by decide +kernel
theorem dX11_motionAt_89 : decode cX11_motionAt 89 = .ok (.if_icmp .ge 19, 3) := by decide +kernel
theorem dX11_motionAt_92 : decode cX11_motionAt 92 = .ok (.aload_n 0, 1) := by decide +kernel
theorem dX11_motionAt_93 : decode cX11_motionAt 93 = .ok (.getfield 100, 3) := by decide +kernel
theorem dX11_motionAt_96 : decode cX11_motionAt 96 = .ok (.iload_n 1, 1) := by decide +kernel
theorem dX11_motionAt_97 : decode cX11_motionAt 97 = .ok (.bipush 10, 2) := by decide +kernel
theorem dX11_motionAt_99 : decode cX11_motionAt 99 = .ok (.iadd, 1) := by decide +kernel
theorem dX11_motionAt_100 : decode cX11_motionAt 100 = .ok (.baload, 1) := by decide +kernel
theorem dX11_motionAt_101 : decode cX11_motionAt 101 = .ok (.ifCond .eq 7, 3) := by decide +kernel
theorem dX11_motionAt_104 : decode cX11_motionAt 104 = .ok (.iconst 1, 1) := by decide +kernel
theorem dX11_motionAt_105 : decode cX11_motionAt 105 = .ok (.goto 4, 3) := by decide +kernel
theorem dX11_motionAt_108 : decode cX11_motionAt 108 = .ok (.iconst 0, 1) := by decide +kernel
theorem dX11_motionAt_109 : decode cX11_motionAt 109 = .ok (.istore 5, 2) := by decide +kernel
theorem dX11_motionAt_111 : decode cX11_motionAt 111 = .ok (.iload_n 2, 1) := by decide +kernel
theorem dX11_motionAt_112 : decode cX11_motionAt 112 = .ok (.ifCond .ne 17, 3) := by decide +kernel
theorem dX11_motionAt_115 : decode cX11_motionAt 115 = .ok (.iload_n 3, 1) := by decide +kernel
theorem dX11_motionAt_116 : decode cX11_motionAt 116 = .ok (.ifCond .ne 13, 3) := by decide +kernel
theorem dX11_motionAt_119 : decode cX11_motionAt 119 = .ok (.iload 4, 2) := by decide +kernel
theorem dX11_motionAt_121 : decode cX11_motionAt 121 = .ok (.ifCond .ne 8, 3) := by decide +kernel
theorem dX11_motionAt_124 : decode cX11_motionAt 124 = .ok (.iload 5, 2) := by decide +kernel
theorem dX11_motionAt_126 : decode cX11_motionAt 126 = .ok (.ifCond .eq 7, 3) := by decide +kernel
theorem dX11_motionAt_129 : decode cX11_motionAt 129 = .ok (.iconst 2, 1) := by decide +kernel
theorem dX11_motionAt_130 : decode cX11_motionAt 130 = .ok (.goto 4, 3) := by decide +kernel
theorem dX11_motionAt_133 : decode cX11_motionAt 133 = .ok (.iconst 1, 1) := by decide +kernel
theorem dX11_motionAt_134 : decode cX11_motionAt 134 = .ok (.ireturn, 1) := by decide +kernel
theorem dX11_decode_0 : decode cX11_decode 0 = .ok (.iconst 0, 1) := by decide +kernel
theorem dX11_decode_1 : decode cX11_decode 1 = .ok (.istore_n 1, 1) := by decide +kernel
theorem dX11_decode_2 : decode cX11_decode 2 = .ok (.iload_n 1, 1) := by decide +kernel
theorem dX11_decode_3 : decode cX11_decode 3 = .ok (.bipush 80, 2) := by decide +kernel
theorem dX11_decode_5 : decode cX11_decode 5 = .ok (.if_icmp .ge 21, 3) := by decide +kernel
theorem dX11_decode_8 : decode cX11_decode 8 = .ok (.aload_n 0, 1) := by decide +kernel
theorem dX11_decode_9 : decode cX11_decode 9 = .ok (.getfield 79, 3) := by decide +kernel
theorem dX11_decode_12 : decode cX11_decode 12 = .ok (.iload_n 1, 1) := by decide +kernel
theorem dX11_decode_13 : decode cX11_decode 13 = .ok (.aload_n 0, 1) := by decide +kernel
theorem dX11_decode_14 : decode cX11_decode 14 = .ok (.getfield 76, 3) := by decide +kernel
theorem dX11_decode_17 : decode cX11_decode 17 = .ok (.iload_n 1, 1) := by decide +kernel
theorem dX11_decode_18 : decode cX11_decode 18 = .ok (.iaload, 1) := by decide +kernel
theorem dX11_decode_19 : decode cX11_decode 19 = .ok (.iastore, 1) := by decide +kernel
theorem dX11_decode_20 : decode cX11_decode 20 = .ok (.iinc 1 1, 3) := by decide +kernel
theorem dX11_decode_23 : decode cX11_decode 23 = .ok (.goto (-21), 3) := by decide +kernel
theorem dX11_decode_26 : decode cX11_decode 26 = .ok (.aload_n 0, 1) := by decide +kernel
theorem dX11_decode_27 : decode cX11_decode 27 = .ok (.dup, 1) := by decide +kernel
theorem dX11_decode_28 : decode cX11_decode 28 = .ok (.getfield 189, 3) := by decide +kernel
theorem dX11_decode_31 : decode cX11_decode 31 = .ok (.iconst 1, 1) := by decide +kernel
theorem dX11_decode_32 : decode cX11_decode 32 = .ok (.iadd, 1) := by decide +kernel
theorem dX11_decode_33 : decode cX11_decode 33 = .ok (.putfield 189, 3) := by decide +kernel
theorem dX11_decode_36 : decode cX11_decode 36 = .ok (.aload_n 0, 1) := by decide +kernel
theorem dX11_decode_37 : decode cX11_decode 37 = .ok (.invokevirtual 192, 3) := by decide +kernel
theorem dX11_decode_40 : decode cX11_decode 40 = .ok (.istore_n 1, 1) := by decide +kernel
theorem dX11_decode_41 : decode cX11_decode 41 = .ok (.aload_n 0, 1) := by decide +kernel
theorem dX11_decode_42 : decode cX11_decode 42 = .ok (.invokevirtual 196, 3) := by decide +kernel
theorem dX11_decode_45 : decode cX11_decode 45 = .ok (.aload_n 0, 1) := by decide +kernel
theorem dX11_decode_46 : decode cX11_decode 46 = .ok (.getfield 35, 3) := by decide +kernel
theorem dX11_decode_49 : decode cX11_decode 49 = .ok (.iconst 3, 1) := by decide +kernel
theorem dX11_decode_50 : decode cX11_decode 50 = .ok (.iaload, 1) := by decide +kernel
theorem dX11_decode_51 : decode cX11_decode 51 = .ok (.iconst 2, 1) := by decide +kernel
theorem dX11_decode_52 : decode cX11_decode 52 = .ok (.if_icmp .ne 10, 3) := by decide +kernel
theorem dX11_decode_55 : decode cX11_decode 55 = .ok (.aload_n 0, 1) := by decide +kernel
theorem dX11_decode_56 : decode cX11_decode 56 = .ok (.invokevirtual 199, 3) := by decide +kernel
theorem dX11_decode_59 : decode cX11_decode 59 = .ok (.goto 9, 3) := by decide +kernel
theorem dX11_decode_62 : decode cX11_decode 62 = .ok (.aload_n 0, 1) := by decide +kernel
theorem dX11_decode_63 : decode cX11_decode 63 = .ok (.getfield 35, 3) := by decide +kernel
theorem dX11_decode_66 : decode cX11_decode 66 = .ok (.iconst 3, 1) := by decide +kernel
theorem dX11_decode_67 : decode cX11_decode 67 = .ok (.iaload, 1) := by decide +kernel
theorem dX11_decode_68 : decode cX11_decode 68 = .ok (.istore_n 2, 1) := by decide +kernel
theorem dX11_decode_69 : decode cX11_decode 69 = .ok (.aload_n 0, 1) := by decide +kernel
theorem dX11_decode_70 : decode cX11_decode 70 = .ok (.iload_n 2, 1) := by decide +kernel
theorem dX11_decode_71 : decode cX11_decode 71 = .ok (.invokevirtual 202, 3) := by decide +kernel
theorem dX11_decode_74 : decode cX11_decode 74 = .ok (.iconst 0, 1) := by decide +kernel
theorem dX11_decode_75 : decode cX11_decode 75 = .ok (.istore_n 3, 1) := by decide +kernel
theorem dX11_decode_76 : decode cX11_decode 76 = .ok (.iload_n 3, 1) := by decide +kernel
theorem dX11_decode_77 : decode cX11_decode 77 = .ok (.bipush 8, 2) := by decide +kernel
theorem dX11_decode_79 : decode cX11_decode 79 = .ok (.if_icmp .ge 33, 3) := by decide +kernel
theorem dX11_decode_82 : decode cX11_decode 82 = .ok (.iconst 0, 1) := by decide +kernel
theorem dX11_decode_83 : decode cX11_decode 83 = .ok (.istore 4, 2) := by decide +kernel
theorem dX11_decode_85 : decode cX11_decode 85 = .ok (.iload 4, 2) := by decide +kernel
theorem dX11_decode_87 : decode cX11_decode 87 = .ok (.bipush 10, 2) := by decide +kernel
theorem dX11_decode_89 : decode cX11_decode 89 = .ok (.if_icmp .ge 17, 3) := by decide +kernel
theorem dX11_decode_92 : decode cX11_decode 92 = .ok (.aload_n 0, 1) := by decide +kernel
theorem dX11_decode_93 : decode cX11_decode 93 = .ok (.iload_n 3, 1) := by decide +kernel
theorem dX11_decode_94 : decode cX11_decode 94 = .ok (.iload 4, 2) := by decide +kernel
theorem dX11_decode_96 : decode cX11_decode 96 = .ok (.iload_n 2, 1) := by decide +kernel
theorem dX11_decode_97 : decode cX11_decode 97 = .ok (.invokevirtual 206, 3) := by decide +kernel
theorem dX11_decode_100 : decode cX11_decode 100 = .ok (.iinc 4 1, 3) := by decide +kernel
theorem dX11_decode_103 : decode cX11_decode 103 = .ok (.goto (-18), 3) := by decide +kernel
theorem dX11_decode_106 : decode cX11_decode 106 = .ok (.iinc 3 1, 3) := by decide +kernel
theorem dX11_decode_109 : decode cX11_decode 109 = .ok (.goto (-33), 3) := by decide +kernel
theorem dX11_decode_112 : decode cX11_decode 112 = .ok (.aload_n 0, 1) := by decide +kernel
theorem dX11_decode_113 : decode cX11_decode 113 = .ok (.invokevirtual 210, 3) := by decide +kernel
theorem dX11_decode_116 : decode cX11_decode 116 = .ok (.iload_n 1, 1) := by decide +kernel
theorem dX11_decode_117 : decode cX11_decode 117 = .ok (.ireturn, 1) := by decide +kernel
theorem dX11_line_0 : decode cX11_line 0 = .ok (.iload_n 1, 1) := by decide +kernel
theorem dX11_line_1 : decode cX11_line 1 = .ok (.invokestatic 107, 3) := by decide +kernel
theorem dX11_line_4 : decode cX11_line 4 = .ok (.ifCond .eq 6, 3) := by decide +kernel
theorem dX11_line_7 : decode cX11_line 7 = .ok (.ldc 115, 2) := by decide +kernel
theorem dX11_line_9 : decode cX11_line 9 = .ok (.ireturn, 1) := by decide +kernel
theorem dX11_line_10 : decode cX11_line 10 = .ok (.iload_n 2, 1) := by decide +kernel
theorem dX11_line_11 : decode cX11_line 11 = .ok (.iconst 0, 1) := by decide +kernel
theorem dX11_line_12 : decode cX11_line 12 = .ok (.bipush 7, 2) := by decide +kernel
theorem dX11_line_14 : decode cX11_line 14 = .ok (.invokestatic 103, 3) := by decide +kernel
theorem dX11_line_17 : decode cX11_line 17 = .ok (.ifCond .ne 6, 3) := by decide +kernel
theorem dX11_line_20 : decode cX11_line 20 = .ok (.ldc 119, 2) := by decide +kernel
theorem dX11_line_22 : decode cX11_line 22 = .ok (.ireturn, 1) := by decide +kernel
theorem dX11_line_23 : decode cX11_line 23 = .ok (.aload_n 0, 1) := by decide +kernel
theorem dX11_line_24 : decode cX11_line 24 = .ok (.getfield 189, 3) := by decide +kernel
theorem dX11_line_27 : decode cX11_line 27 = .ok (.ifCond .ne 6, 3) := by decide +kernel
theorem dX11_line_30 : decode cX11_line 30 = .ok (.ldc 132, 2) := by decide +kernel
theorem dX11_line_32 : decode cX11_line 32 = .ok (.ireturn, 1) := by decide +kernel
theorem dX11_line_33 : decode cX11_line 33 = .ok (.iload_n 2, 1) := by decide +kernel
theorem dX11_line_34 : decode cX11_line 34 = .ok (.tableswitch 115 0 6 #[42, 49, 56, 71, 78, 85, 100], 42) := by decide +kernel
theorem dX11_line_76 : decode cX11_line 76 = .ok (.aload_n 0, 1) := by decide +kernel
theorem dX11_line_77 : decode cX11_line 77 = .ok (.getfield 45, 3) := by decide +kernel
theorem dX11_line_80 : decode cX11_line 80 = .ok (.iload_n 1, 1) := by decide +kernel
theorem dX11_line_81 : decode cX11_line 81 = .ok (.iaload, 1) := by decide +kernel
theorem dX11_line_82 : decode cX11_line 82 = .ok (.ireturn, 1) := by decide +kernel
theorem dX11_line_83 : decode cX11_line 83 = .ok (.aload_n 0, 1) := by decide +kernel
theorem dX11_line_84 : decode cX11_line 84 = .ok (.getfield 48, 3) := by decide +kernel
theorem dX11_line_87 : decode cX11_line 87 = .ok (.iload_n 1, 1) := by decide +kernel
theorem dX11_line_88 : decode cX11_line 88 = .ok (.iaload, 1) := by decide +kernel
theorem dX11_line_89 : decode cX11_line 89 = .ok (.ireturn, 1) := by decide +kernel
theorem dX11_line_90 : decode cX11_line 90 = .ok (.aload_n 0, 1) := by decide +kernel
theorem dX11_line_91 : decode cX11_line 91 = .ok (.getfield 51, 3) := by decide +kernel
theorem dX11_line_94 : decode cX11_line 94 = .ok (.iload_n 1, 1) := by decide +kernel
theorem dX11_line_95 : decode cX11_line 95 = .ok (.baload, 1) := by decide +kernel
theorem dX11_line_96 : decode cX11_line 96 = .ok (.ifCond .eq 7, 3) := by decide +kernel
theorem dX11_line_99 : decode cX11_line 99 = .ok (.iconst 1, 1) := by decide +kernel
theorem dX11_line_100 : decode cX11_line 100 = .ok (.goto 4, 3) := by decide +kernel
theorem dX11_line_103 : decode cX11_line 103 = .ok (.iconst 0, 1) := by decide +kernel
theorem dX11_line_104 : decode cX11_line 104 = .ok (.ireturn, 1) := by decide +kernel
theorem dX11_line_105 : decode cX11_line 105 = .ok (.aload_n 0, 1) := by decide +kernel
theorem dX11_line_106 : decode cX11_line 106 = .ok (.getfield 57, 3) := by decide +kernel
theorem dX11_line_109 : decode cX11_line 109 = .ok (.iload_n 1, 1) := by decide +kernel
theorem dX11_line_110 : decode cX11_line 110 = .ok (.iaload, 1) := by decide +kernel
theorem dX11_line_111 : decode cX11_line 111 = .ok (.ireturn, 1) := by decide +kernel
theorem dX11_line_112 : decode cX11_line 112 = .ok (.aload_n 0, 1) := by decide +kernel
theorem dX11_line_113 : decode cX11_line 113 = .ok (.getfield 60, 3) := by decide +kernel
theorem dX11_line_116 : decode cX11_line 116 = .ok (.iload_n 1, 1) := by decide +kernel
theorem dX11_line_117 : decode cX11_line 117 = .ok (.iaload, 1) := by decide +kernel
theorem dX11_line_118 : decode cX11_line 118 = .ok (.ireturn, 1) := by decide +kernel
theorem dX11_line_119 : decode cX11_line 119 = .ok (.aload_n 0, 1) := by decide +kernel
theorem dX11_line_120 : decode cX11_line 120 = .ok (.getfield 63, 3) := by decide +kernel
theorem dX11_line_123 : decode cX11_line 123 = .ok (.iload_n 1, 1) := by decide +kernel
theorem dX11_line_124 : decode cX11_line 124 = .ok (.baload, 1) := by decide +kernel
theorem dX11_line_125 : decode cX11_line 125 = .ok (.ifCond .eq 7, 3) := by decide +kernel
theorem dX11_line_128 : decode cX11_line 128 = .ok (.iconst 1, 1) := by decide +kernel
theorem dX11_line_129 : decode cX11_line 129 = .ok (.goto 4, 3) := by decide +kernel
theorem dX11_line_132 : decode cX11_line 132 = .ok (.iconst 0, 1) := by decide +kernel
theorem dX11_line_133 : decode cX11_line 133 = .ok (.ireturn, 1) := by decide +kernel
theorem dX11_line_134 : decode cX11_line 134 = .ok (.aload_n 0, 1) := by decide +kernel
theorem dX11_line_135 : decode cX11_line 135 = .ok (.getfield 66, 3) := by decide +kernel
theorem dX11_line_138 : decode cX11_line 138 = .ok (.iload_n 1, 1) := by decide +kernel
theorem dX11_line_139 : decode cX11_line 139 = .ok (.baload, 1) := by decide +kernel
theorem dX11_line_140 : decode cX11_line 140 = .ok (.ifCond .eq 7, 3) := by decide +kernel
theorem dX11_line_143 : decode cX11_line 143 = .ok (.iconst 1, 1) := by decide +kernel
theorem dX11_line_144 : decode cX11_line 144 = .ok (.goto 4, 3) := by decide +kernel
theorem dX11_line_147 : decode cX11_line 147 = .ok (.iconst 0, 1) := by decide +kernel
theorem dX11_line_148 : decode cX11_line 148 = .ok (.ireturn, 1) := by decide +kernel
theorem dX11_line_149 : decode cX11_line 149 = .ok (.aload_n 0, 1) := by decide +kernel
theorem dX11_line_150 : decode cX11_line 150 = .ok (.getfield 54, 3) := by decide +kernel
theorem dX11_line_153 : decode cX11_line 153 = .ok (.iload_n 1, 1) := by decide +kernel
theorem dX11_line_154 : decode cX11_line 154 = .ok (.iaload, 1) := by decide +kernel
theorem dX11_line_155 : decode cX11_line 155 = .ok (.ireturn, 1) := by decide +kernel
theorem dX11_luma_0 : decode cX11_luma 0 = .ok (.iload_n 1, 1) := by decide +kernel
theorem dX11_luma_1 : decode cX11_luma 1 = .ok (.iload_n 2, 1) := by decide +kernel
theorem dX11_luma_2 : decode cX11_luma 2 = .ok (.invokestatic 111, 3) := by decide +kernel
theorem dX11_luma_5 : decode cX11_luma 5 = .ok (.ifCond .eq 6, 3) := by decide +kernel
theorem dX11_luma_8 : decode cX11_luma 8 = .ok (.ldc 115, 2) := by decide +kernel
theorem dX11_luma_10 : decode cX11_luma 10 = .ok (.ireturn, 1) := by decide +kernel
theorem dX11_luma_11 : decode cX11_luma 11 = .ok (.aload_n 0, 1) := by decide +kernel
theorem dX11_luma_12 : decode cX11_luma 12 = .ok (.getfield 189, 3) := by decide +kernel
theorem dX11_luma_15 : decode cX11_luma 15 = .ok (.ifCond .ne 8, 3) := by decide +kernel
theorem dX11_luma_18 : decode cX11_luma 18 = .ok (.ldc 132, 2) := by decide +kernel
theorem dX11_luma_20 : decode cX11_luma 20 = .ok (.goto 14, 3) := by decide +kernel
theorem dX11_luma_23 : decode cX11_luma 23 = .ok (.aload_n 0, 1) := by decide +kernel
theorem dX11_luma_24 : decode cX11_luma 24 = .ok (.getfield 76, 3) := by decide +kernel
theorem dX11_luma_27 : decode cX11_luma 27 = .ok (.bipush 10, 2) := by decide +kernel
theorem dX11_luma_29 : decode cX11_luma 29 = .ok (.iload_n 1, 1) := by decide +kernel
theorem dX11_luma_30 : decode cX11_luma 30 = .ok (.imul, 1) := by decide +kernel
theorem dX11_luma_31 : decode cX11_luma 31 = .ok (.iload_n 2, 1) := by decide +kernel
theorem dX11_luma_32 : decode cX11_luma 32 = .ok (.iadd, 1) := by decide +kernel
theorem dX11_luma_33 : decode cX11_luma 33 = .ok (.iaload, 1) := by decide +kernel
theorem dX11_luma_34 : decode cX11_luma 34 = .ok (.ireturn, 1) := by decide +kernel
theorem dX11_combed_0 : decode cX11_combed 0 = .ok (.iload_n 1, 1) := by decide +kernel
theorem dX11_combed_1 : decode cX11_combed 1 = .ok (.iload_n 2, 1) := by decide +kernel
theorem dX11_combed_2 : decode cX11_combed 2 = .ok (.invokestatic 111, 3) := by decide +kernel
theorem dX11_combed_5 : decode cX11_combed 5 = .ok (.ifCond .eq 6, 3) := by decide +kernel
theorem dX11_combed_8 : decode cX11_combed 8 = .ok (.ldc 115, 2) := by decide +kernel
theorem dX11_combed_10 : decode cX11_combed 10 = .ok (.ireturn, 1) := by decide +kernel
theorem dX11_combed_11 : decode cX11_combed 11 = .ok (.aload_n 0, 1) := by decide +kernel
theorem dX11_combed_12 : decode cX11_combed 12 = .ok (.getfield 189, 3) := by decide +kernel
theorem dX11_combed_15 : decode cX11_combed 15 = .ok (.ifCond .ne 8, 3) := by decide +kernel
theorem dX11_combed_18 : decode cX11_combed 18 = .ok (.ldc 132, 2) := by decide +kernel
theorem dX11_combed_20 : decode cX11_combed 20 = .ok (.goto 14, 3) := by decide +kernel
theorem dX11_combed_23 : decode cX11_combed 23 = .ok (.aload_n 0, 1) := by decide +kernel
theorem dX11_combed_24 : decode cX11_combed 24 = .ok (.getfield 82, 3) := by decide +kernel
theorem dX11_combed_27 : decode cX11_combed 27 = .ok (.bipush 10, 2) := by decide +kernel
theorem dX11_combed_29 : decode cX11_combed 29 = .ok (.iload_n 1, 1) := by decide +kernel
theorem dX11_combed_30 : decode cX11_combed 30 = .ok (.imul, 1) := by decide +kernel
theorem dX11_combed_31 : decode cX11_combed 31 = .ok (.iload_n 2, 1) := by decide +kernel
theorem dX11_combed_32 : decode cX11_combed 32 = .ok (.iadd, 1) := by decide +kernel
theorem dX11_combed_33 : decode cX11_combed 33 = .ok (.iaload, 1) := by decide +kernel
theorem dX11_combed_34 : decode cX11_combed 34 = .ok (.ireturn, 1) := by decide +kernel
theorem dX11_u_0 : decode cX11_u 0 = .ok (.iload_n 1, 1) := by decide +kernel
theorem dX11_u_1 : decode cX11_u 1 = .ok (.iload_n 2, 1) := by decide +kernel
theorem dX11_u_2 : decode cX11_u 2 = .ok (.invokestatic 111, 3) := by decide +kernel
theorem dX11_u_5 : decode cX11_u 5 = .ok (.ifCond .eq 7, 3) := by decide +kernel
theorem dX11_u_8 : decode cX11_u 8 = .ok (.fconst 0, 1) := by decide +kernel
theorem dX11_u_9 : decode cX11_u 9 = .ok (.goto 14, 3) := by decide +kernel
theorem dX11_u_12 : decode cX11_u 12 = .ok (.aload_n 0, 1) := by decide +kernel
theorem dX11_u_13 : decode cX11_u 13 = .ok (.getfield 91, 3) := by decide +kernel
theorem dX11_u_16 : decode cX11_u 16 = .ok (.bipush 10, 2) := by decide +kernel
theorem dX11_u_18 : decode cX11_u 18 = .ok (.iload_n 1, 1) := by decide +kernel
theorem dX11_u_19 : decode cX11_u 19 = .ok (.imul, 1) := by decide +kernel
theorem dX11_u_20 : decode cX11_u 20 = .ok (.iload_n 2, 1) := by decide +kernel
theorem dX11_u_21 : decode cX11_u 21 = .ok (.iadd, 1) := by decide +kernel
theorem dX11_u_22 : decode cX11_u 22 = .ok (.faload, 1) := by decide +kernel
theorem dX11_u_23 : decode cX11_u 23 = .ok (.freturn, 1) := by decide +kernel
theorem dX11_v_0 : decode cX11_v 0 = .ok (.iload_n 1, 1) := by decide +kernel
theorem dX11_v_1 : decode cX11_v 1 = .ok (.iload_n 2, 1) := by decide +kernel
theorem dX11_v_2 : decode cX11_v 2 = .ok (.invokestatic 111, 3) := by decide +kernel
theorem dX11_v_5 : decode cX11_v 5 = .ok (.ifCond .eq 7, 3) := by decide +kernel
theorem dX11_v_8 : decode cX11_v 8 = .ok (.fconst 0, 1) := by decide +kernel
theorem dX11_v_9 : decode cX11_v 9 = .ok (.goto 14, 3) := by decide +kernel
theorem dX11_v_12 : decode cX11_v 12 = .ok (.aload_n 0, 1) := by decide +kernel
theorem dX11_v_13 : decode cX11_v 13 = .ok (.getfield 94, 3) := by decide +kernel
theorem dX11_v_16 : decode cX11_v 16 = .ok (.bipush 10, 2) := by decide +kernel
theorem dX11_v_18 : decode cX11_v 18 = .ok (.iload_n 1, 1) := by decide +kernel
theorem dX11_v_19 : decode cX11_v 19 = .ok (.imul, 1) := by decide +kernel
theorem dX11_v_20 : decode cX11_v 20 = .ok (.iload_n 2, 1) := by decide +kernel
theorem dX11_v_21 : decode cX11_v 21 = .ok (.iadd, 1) := by decide +kernel
theorem dX11_v_22 : decode cX11_v 22 = .ok (.faload, 1) := by decide +kernel
theorem dX11_v_23 : decode cX11_v 23 = .ok (.freturn, 1) := by decide +kernel
theorem dX11_thousandths_0 : decode cX11_thousandths 0 = .ok (.iload_n 1, 1) := by decide +kernel
theorem dX11_thousandths_1 : decode cX11_thousandths 1 = .ok (.iload_n 2, 1) := by decide +kernel
theorem dX11_thousandths_2 : decode cX11_thousandths 2 = .ok (.invokestatic 111, 3) := by decide +kernel
theorem dX11_thousandths_5 : decode cX11_thousandths 5 = .ok (.ifCond .eq 6, 3) := by decide +kernel
theorem dX11_thousandths_8 : decode cX11_thousandths 8 = .ok (.ldc 115, 2) := by decide +kernel
theorem dX11_thousandths_10 : decode cX11_thousandths 10 = .ok (.ireturn, 1) := by decide +kernel
theorem dX11_thousandths_11 : decode cX11_thousandths 11 = .ok (.iload_n 3, 1) := by decide +kernel
theorem dX11_thousandths_12 : decode cX11_thousandths 12 = .ok (.iconst 0, 1) := by decide +kernel
theorem dX11_thousandths_13 : decode cX11_thousandths 13 = .ok (.iconst 1, 1) := by decide +kernel
theorem dX11_thousandths_14 : decode cX11_thousandths 14 = .ok (.invokestatic 103, 3) := by decide +kernel
theorem dX11_thousandths_17 : decode cX11_thousandths 17 = .ok (.ifCond .ne 6, 3) := by decide +kernel
theorem dX11_thousandths_20 : decode cX11_thousandths 20 = .ok (.ldc 119, 2) := by decide +kernel
theorem dX11_thousandths_22 : decode cX11_thousandths 22 = .ok (.ireturn, 1) := by decide +kernel
theorem dX11_thousandths_23 : decode cX11_thousandths 23 = .ok (.aload_n 0, 1) := by decide +kernel
theorem dX11_thousandths_24 : decode cX11_thousandths 24 = .ok (.getfield 189, 3) := by decide +kernel
theorem dX11_thousandths_27 : decode cX11_thousandths 27 = .ok (.ifCond .ne 6, 3) := by decide +kernel
theorem dX11_thousandths_30 : decode cX11_thousandths 30 = .ok (.ldc 132, 2) := by decide +kernel
theorem dX11_thousandths_32 : decode cX11_thousandths 32 = .ok (.ireturn, 1) := by decide +kernel
theorem dX11_thousandths_33 : decode cX11_thousandths 33 = .ok (.iload_n 3, 1) := by decide +kernel
theorem dX11_thousandths_34 : decode cX11_thousandths 34 = .ok (.ifCond .ne 17, 3) := by decide +kernel
theorem dX11_thousandths_37 : decode cX11_thousandths 37 = .ok (.aload_n 0, 1) := by decide +kernel
theorem dX11_thousandths_38 : decode cX11_thousandths 38 = .ok (.getfield 91, 3) := by decide +kernel
theorem dX11_thousandths_41 : decode cX11_thousandths 41 = .ok (.bipush 10, 2) := by decide +kernel
theorem dX11_thousandths_43 : decode cX11_thousandths 43 = .ok (.iload_n 1, 1) := by decide +kernel
theorem dX11_thousandths_44 : decode cX11_thousandths 44 = .ok (.imul, 1) := by decide +kernel
theorem dX11_thousandths_45 : decode cX11_thousandths 45 = .ok (.iload_n 2, 1) := by decide +kernel
theorem dX11_thousandths_46 : decode cX11_thousandths 46 = .ok (.iadd, 1) := by decide +kernel
theorem dX11_thousandths_47 : decode cX11_thousandths 47 = .ok (.faload, 1) := by decide +kernel
theorem dX11_thousandths_48 : decode cX11_thousandths 48 = .ok (.goto 14, 3) := by decide +kernel
theorem dX11_thousandths_51 : decode cX11_thousandths 51 = .ok (.aload_n 0, 1) := by decide +kernel
theorem dX11_thousandths_52 : decode cX11_thousandths 52 = .ok (.getfield 94, 3) := by decide +kernel
theorem dX11_thousandths_55 : decode cX11_thousandths 55 = .ok (.bipush 10, 2) := by decide +kernel
theorem dX11_thousandths_57 : decode cX11_thousandths 57 = .ok (.iload_n 1, 1) := by decide +kernel
theorem dX11_thousandths_58 : decode cX11_thousandths 58 = .ok (.imul, 1) := by decide +kernel
theorem dX11_thousandths_59 : decode cX11_thousandths 59 = .ok (.iload_n 2, 1) := by decide +kernel
theorem dX11_thousandths_60 : decode cX11_thousandths 60 = .ok (.iadd, 1) := by decide +kernel
theorem dX11_thousandths_61 : decode cX11_thousandths 61 = .ok (.faload, 1) := by decide +kernel
theorem dX11_thousandths_62 : decode cX11_thousandths 62 = .ok (.fstore 4, 2) := by decide +kernel
theorem dX11_thousandths_64 : decode cX11_thousandths 64 = .ok (.fload 4, 2) := by decide +kernel
theorem dX11_thousandths_66 : decode cX11_thousandths 66 = .ok (.ldc 213, 2) := by decide +kernel
theorem dX11_thousandths_68 : decode cX11_thousandths 68 = .ok (.fmul, 1) := by decide +kernel
theorem dX11_thousandths_69 : decode cX11_thousandths 69 = .ok (.f2i, 1) := by decide +kernel
theorem dX11_thousandths_70 : decode cX11_thousandths 70 = .ok (.ireturn, 1) := by decide +kernel
theorem dX11_reference_0 : decode cX11_reference 0 = .ok (.iload_n 1, 1) := by decide +kernel
theorem dX11_reference_1 : decode cX11_reference 1 = .ok (.invokestatic 107, 3) := by decide +kernel
theorem dX11_reference_4 : decode cX11_reference 4 = .ok (.ifCond .ne 12, 3) := by decide +kernel
theorem dX11_reference_7 : decode cX11_reference 7 = .ok (.iload_n 2, 1) := by decide +kernel
theorem dX11_reference_8 : decode cX11_reference 8 = .ok (.iconst 0, 1) := by decide +kernel
theorem dX11_reference_9 : decode cX11_reference 9 = .ok (.iconst 1, 1) := by decide +kernel
theorem dX11_reference_10 : decode cX11_reference 10 = .ok (.invokestatic 103, 3) := by decide +kernel
theorem dX11_reference_13 : decode cX11_reference 13 = .ok (.ifCond .ne 7, 3) := by decide +kernel
theorem dX11_reference_16 : decode cX11_reference 16 = .ok (.fconst 0, 1) := by decide +kernel
theorem dX11_reference_17 : decode cX11_reference 17 = .ok (.goto 22, 3) := by decide +kernel
theorem dX11_reference_20 : decode cX11_reference 20 = .ok (.iload_n 2, 1) := by decide +kernel
theorem dX11_reference_21 : decode cX11_reference 21 = .ok (.ifCond .ne 12, 3) := by decide +kernel
theorem dX11_reference_24 : decode cX11_reference 24 = .ok (.aload_n 0, 1) := by decide +kernel
theorem dX11_reference_25 : decode cX11_reference 25 = .ok (.getfield 69, 3) := by decide +kernel
theorem dX11_reference_28 : decode cX11_reference 28 = .ok (.iload_n 1, 1) := by decide +kernel
theorem dX11_reference_29 : decode cX11_reference 29 = .ok (.faload, 1) := by decide +kernel
theorem dX11_reference_30 : decode cX11_reference 30 = .ok (.goto 9, 3) := by decide +kernel
theorem dX11_reference_33 : decode cX11_reference 33 = .ok (.aload_n 0, 1) := by decide +kernel
theorem dX11_reference_34 : decode cX11_reference 34 = .ok (.getfield 73, 3) := by decide +kernel
theorem dX11_reference_37 : decode cX11_reference 37 = .ok (.iload_n 1, 1) := by decide +kernel
theorem dX11_reference_38 : decode cX11_reference 38 = .ok (.faload, 1) := by decide +kernel
theorem dX11_reference_39 : decode cX11_reference 39 = .ok (.freturn, 1) := by decide +kernel
theorem dX11_motion_0 : decode cX11_motion 0 = .ok (.iload_n 1, 1) := by decide +kernel
theorem dX11_motion_1 : decode cX11_motion 1 = .ok (.iload_n 2, 1) := by decide +kernel
theorem dX11_motion_2 : decode cX11_motion 2 = .ok (.invokestatic 111, 3) := by decide +kernel
theorem dX11_motion_5 : decode cX11_motion 5 = .ok (.ifCond .eq 6, 3) := by decide +kernel
theorem dX11_motion_8 : decode cX11_motion 8 = .ok (.ldc 115, 2) := by decide +kernel
theorem dX11_motion_10 : decode cX11_motion 10 = .ok (.ireturn, 1) := by decide +kernel
theorem dX11_motion_11 : decode cX11_motion 11 = .ok (.aload_n 0, 1) := by decide +kernel
theorem dX11_motion_12 : decode cX11_motion 12 = .ok (.getfield 189, 3) := by decide +kernel
theorem dX11_motion_15 : decode cX11_motion 15 = .ok (.iconst 2, 1) := by decide +kernel
theorem dX11_motion_16 : decode cX11_motion 16 = .ok (.if_icmp .ge 8, 3) := by decide +kernel
theorem dX11_motion_19 : decode cX11_motion 19 = .ok (.ldc 132, 2) := by decide +kernel
theorem dX11_motion_21 : decode cX11_motion 21 = .ok (.goto 13, 3) := by decide +kernel
theorem dX11_motion_24 : decode cX11_motion 24 = .ok (.aload_n 0, 1) := by decide +kernel
theorem dX11_motion_25 : decode cX11_motion 25 = .ok (.bipush 10, 2) := by decide +kernel
theorem dX11_motion_27 : decode cX11_motion 27 = .ok (.iload_n 1, 1) := by decide +kernel
theorem dX11_motion_28 : decode cX11_motion 28 = .ok (.imul, 1) := by decide +kernel
theorem dX11_motion_29 : decode cX11_motion 29 = .ok (.iload_n 2, 1) := by decide +kernel
theorem dX11_motion_30 : decode cX11_motion 30 = .ok (.iadd, 1) := by decide +kernel
theorem dX11_motion_31 : decode cX11_motion 31 = .ok (.invokevirtual 214, 3) := by decide +kernel
theorem dX11_motion_34 : decode cX11_motion 34 = .ok (.ireturn, 1) := by decide +kernel
theorem dX11_linesWithColor_0 : decode cX11_linesWithColor 0 = .ok (.iconst 0, 1) := by decide +kernel
theorem dX11_linesWithColor_1 : decode cX11_linesWithColor 1 = .ok (.istore_n 1, 1) := by decide +kernel
theorem dX11_linesWithColor_2 : decode cX11_linesWithColor 2 = .ok (.iconst 0, 1) := by decide +kernel
theorem dX11_linesWithColor_3 : decode cX11_linesWithColor 3 = .ok (.istore_n 2, 1) := by decide +kernel
theorem dX11_linesWithColor_4 : decode cX11_linesWithColor 4 = .ok (.iload_n 2, 1) := by decide +kernel
theorem dX11_linesWithColor_5 : decode cX11_linesWithColor 5 = .ok (.bipush 8, 2) := by decide +kernel
theorem dX11_linesWithColor_7 : decode cX11_linesWithColor 7 = .ok (.if_icmp .ge 26, 3) := by decide +kernel
theorem dX11_linesWithColor_10 : decode cX11_linesWithColor 10 = .ok (.iload_n 1, 1) := by decide +kernel
theorem dX11_linesWithColor_11 : decode cX11_linesWithColor 11 = .ok (.aload_n 0, 1) := by decide +kernel
theorem dX11_linesWithColor_12 : decode cX11_linesWithColor 12 = .ok (.getfield 66, 3) := by decide +kernel
theorem dX11_linesWithColor_15 : decode cX11_linesWithColor 15 = .ok (.iload_n 2, 1) := by decide +kernel
theorem dX11_linesWithColor_16 : decode cX11_linesWithColor 16 = .ok (.baload, 1) := by decide +kernel
theorem dX11_linesWithColor_17 : decode cX11_linesWithColor 17 = .ok (.ifCond .eq 7, 3) := by decide +kernel
theorem dX11_linesWithColor_20 : decode cX11_linesWithColor 20 = .ok (.iconst 1, 1) := by decide +kernel
theorem dX11_linesWithColor_21 : decode cX11_linesWithColor 21 = .ok (.goto 4, 3) := by decide +kernel
theorem dX11_linesWithColor_24 : decode cX11_linesWithColor 24 = .ok (.iconst 0, 1) := by decide +kernel
theorem dX11_linesWithColor_25 : decode cX11_linesWithColor 25 = .ok (.iadd, 1) := by decide +kernel
theorem dX11_linesWithColor_26 : decode cX11_linesWithColor 26 = .ok (.istore_n 1, 1) := by decide +kernel
theorem dX11_linesWithColor_27 : decode cX11_linesWithColor 27 = .ok (.iinc 2 1, 3) := by decide +kernel
theorem dX11_linesWithColor_30 : decode cX11_linesWithColor 30 = .ok (.goto (-26), 3) := by decide +kernel
theorem dX11_linesWithColor_33 : decode cX11_linesWithColor 33 = .ok (.iload_n 1, 1) := by decide +kernel
theorem dX11_linesWithColor_34 : decode cX11_linesWithColor 34 = .ok (.ireturn, 1) := by decide +kernel
theorem dX11_segments_0 : decode cX11_segments 0 = .ok (.iconst 0, 1) := by decide +kernel
theorem dX11_segments_1 : decode cX11_segments 1 = .ok (.istore_n 2, 1) := by decide +kernel
theorem dX11_segments_2 : decode cX11_segments 2 = .ok (.iconst 0, 1) := by decide +kernel
theorem dX11_segments_3 : decode cX11_segments 3 = .ok (.istore_n 3, 1) := by decide +kernel
theorem dX11_segments_4 : decode cX11_segments 4 = .ok (.iload_n 3, 1) := by decide +kernel
theorem dX11_segments_5 : decode cX11_segments 5 = .ok (.bipush 80, 2) := by decide +kernel
theorem dX11_segments_7 : decode cX11_segments 7 = .ok (.if_icmp .ge 110, 3) := by decide +kernel
theorem dX11_segments_10 : decode cX11_segments 10 = .ok (.aload_n 0, 1) := by decide +kernel
theorem dX11_segments_11 : decode cX11_segments 11 = .ok (.getfield 76, 3) := by decide +kernel
theorem dX11_segments_14 : decode cX11_segments 14 = .ok (.iload_n 3, 1) := by decide +kernel
theorem dX11_segments_15 : decode cX11_segments 15 = .ok (.iaload, 1) := by decide +kernel
theorem dX11_segments_16 : decode cX11_segments 16 = .ok (.aload_n 0, 1) := by decide +kernel
theorem dX11_segments_17 : decode cX11_segments 17 = .ok (.getfield 7, 3) := by decide +kernel
theorem dX11_segments_20 : decode cX11_segments 20 = .ok (.iload_n 3, 1) := by decide +kernel
theorem dX11_segments_21 : decode cX11_segments 21 = .ok (.iaload, 1) := by decide +kernel
theorem dX11_segments_22 : decode cX11_segments 22 = .ok (.isub, 1) := by decide +kernel
theorem dX11_segments_23 : decode cX11_segments 23 = .ok (.invokestatic 160, 3) := by decide +kernel
theorem dX11_segments_26 : decode cX11_segments 26 = .ok (.istore 4, 2) := by decide +kernel
theorem dX11_segments_28 : decode cX11_segments 28 = .ok (.aload_n 0, 1) := by decide +kernel
theorem dX11_segments_29 : decode cX11_segments 29 = .ok (.iload_n 3, 1) := by decide +kernel
theorem dX11_segments_30 : decode cX11_segments 30 = .ok (.invokevirtual 214, 3) := by decide +kernel
theorem dX11_segments_33 : decode cX11_segments 33 = .ok (.istore 5, 2) := by decide +kernel
theorem dX11_segments_35 : decode cX11_segments 35 = .ok (.iload_n 2, 1) := by decide +kernel
theorem dX11_segments_36 : decode cX11_segments 36 = .ok (.iload_n 1, 1) := by decide +kernel
theorem dX11_segments_37 : decode cX11_segments 37 = .ok (.iconst 5, 1) := by decide +kernel
theorem dX11_segments_38 : decode cX11_segments 38 = .ok (.if_icmp .ne 8, 3) := by decide +kernel
theorem dX11_segments_41 : decode cX11_segments 41 = .ok (.iload 4, 2) := by decide +kernel
theorem dX11_segments_43 : decode cX11_segments 43 = .ok (.ifCond .gt 46, 3) := by decide +kernel
theorem dX11_segments_46 : decode cX11_segments 46 = .ok (.iload_n 1, 1) := by decide +kernel
theorem dX11_segments_47 : decode cX11_segments 47 = .ok (.bipush 7, 2) := by decide +kernel
theorem dX11_segments_49 : decode cX11_segments 49 = .ok (.if_icmp .ne 9, 3) := by decide +kernel
theorem dX11_segments_52 : decode cX11_segments 52 = .ok (.iload 5, 2) := by decide +kernel
theorem dX11_segments_54 : decode cX11_segments 54 = .ok (.iconst 2, 1) := by decide +kernel
theorem dX11_segments_55 : decode cX11_segments 55 = .ok (.if_icmp .eq 34, 3) := by decide +kernel
theorem dX11_segments_58 : decode cX11_segments 58 = .ok (.iload_n 1, 1) := by decide +kernel
theorem dX11_segments_59 : decode cX11_segments 59 = .ok (.bipush 8, 2) := by decide +kernel
theorem dX11_segments_61 : decode cX11_segments 61 = .ok (.if_icmp .ne 9, 3) := by decide +kernel
theorem dX11_segments_64 : decode cX11_segments 64 = .ok (.iload 5, 2) := by decide +kernel
theorem dX11_segments_66 : decode cX11_segments 66 = .ok (.iconst 1, 1) := by decide +kernel
theorem dX11_segments_67 : decode cX11_segments 67 = .ok (.if_icmp .eq 22, 3) := by decide +kernel
theorem dX11_segments_70 : decode cX11_segments 70 = .ok (.iload_n 1, 1) := by decide +kernel
theorem dX11_segments_71 : decode cX11_segments 71 = .ok (.bipush 8, 2) := by decide +kernel
theorem dX11_segments_73 : decode cX11_segments 73 = .ok (.if_icmp .le 20, 3) := by decide +kernel
theorem dX11_segments_76 : decode cX11_segments 76 = .ok (.aload_n 0, 1) := by decide +kernel
theorem dX11_segments_77 : decode cX11_segments 77 = .ok (.getfield 82, 3) := by decide +kernel
theorem dX11_segments_80 : decode cX11_segments 80 = .ok (.iload_n 3, 1) := by decide +kernel
theorem dX11_segments_81 : decode cX11_segments 81 = .ok (.iaload, 1) := by decide +kernel
theorem dX11_segments_82 : decode cX11_segments 82 = .ok (.iload_n 1, 1) := by decide +kernel
theorem dX11_segments_83 : decode cX11_segments 83 = .ok (.bipush 9, 2) := by decide +kernel
theorem dX11_segments_85 : decode cX11_segments 85 = .ok (.isub, 1) := by decide +kernel
theorem dX11_segments_86 : decode cX11_segments 86 = .ok (.if_icmp .ne 7, 3) := by decide +kernel
theorem dX11_segments_89 : decode cX11_segments 89 = .ok (.iconst 1, 1) := by decide +kernel
theorem dX11_segments_90 : decode cX11_segments 90 = .ok (.goto 4, 3) := by decide +kernel
theorem dX11_segments_93 : decode cX11_segments 93 = .ok (.iconst 0, 1) := by decide +kernel
theorem dX11_segments_94 : decode cX11_segments 94 = .ok (.iadd, 1) := by decide +kernel
theorem dX11_segments_95 : decode cX11_segments 95 = .ok (.istore_n 2, 1) := by decide +kernel
theorem dX11_segments_96 : decode cX11_segments 96 = .ok (.iload_n 2, 1) := by decide +kernel
theorem dX11_segments_97 : decode cX11_segments 97 = .ok (.iload_n 1, 1) := by decide +kernel
theorem dX11_segments_98 : decode cX11_segments 98 = .ok (.bipush 6, 2) := by decide +kernel
theorem dX11_segments_100 : decode cX11_segments 100 = .ok (.if_icmp .ne 8, 3) := by decide +kernel
theorem dX11_segments_103 : decode cX11_segments 103 = .ok (.iload 4, 2) := by decide +kernel
theorem dX11_segments_105 : decode cX11_segments 105 = .ok (.goto 4, 3) := by decide +kernel
theorem dX11_segments_108 : decode cX11_segments 108 = .ok (.iconst 0, 1) := by decide +kernel
theorem dX11_segments_109 : decode cX11_segments 109 = .ok (.iadd, 1) := by decide +kernel
theorem dX11_segments_110 : decode cX11_segments 110 = .ok (.istore_n 2, 1) := by decide +kernel
theorem dX11_segments_111 : decode cX11_segments 111 = .ok (.iinc 3 1, 3) := by decide +kernel
theorem dX11_segments_114 : decode cX11_segments 114 = .ok (.goto (-110), 3) := by decide +kernel
theorem dX11_segments_117 : decode cX11_segments 117 = .ok (.iload_n 2, 1) := by decide +kernel
theorem dX11_segments_118 : decode cX11_segments 118 = .ok (.ireturn, 1) := by decide +kernel
theorem dX11_count_0 : decode cX11_count 0 = .ok (.iload_n 1, 1) := by decide +kernel
theorem dX11_count_1 : decode cX11_count 1 = .ok (.iconst 0, 1) := by decide +kernel
theorem dX11_count_2 : decode cX11_count 2 = .ok (.bipush 18, 2) := by decide +kernel
theorem dX11_count_4 : decode cX11_count 4 = .ok (.invokestatic 103, 3) := by decide +kernel
theorem dX11_count_7 : decode cX11_count 7 = .ok (.ifCond .ne 6, 3) := by decide +kernel
theorem dX11_count_10 : decode cX11_count 10 = .ok (.ldc 119, 2) := by decide +kernel
theorem dX11_count_12 : decode cX11_count 12 = .ok (.ireturn, 1) := by decide +kernel
theorem dX11_count_13 : decode cX11_count 13 = .ok (.iload_n 1, 1) := by decide +kernel
theorem dX11_count_14 : decode cX11_count 14 = .ok (.iconst 1, 1) := by decide +kernel
theorem dX11_count_15 : decode cX11_count 15 = .ok (.bipush 12, 2) := by decide +kernel
theorem dX11_count_17 : decode cX11_count 17 = .ok (.invokestatic 103, 3) := by decide +kernel
theorem dX11_count_20 : decode cX11_count 20 = .ok (.ifCond .eq 33, 3) := by decide +kernel
theorem dX11_count_23 : decode cX11_count 23 = .ok (.aload_n 0, 1) := by decide +kernel
theorem dX11_count_24 : decode cX11_count 24 = .ok (.getfield 189, 3) := by decide +kernel
theorem dX11_count_27 : decode cX11_count 27 = .ok (.ifCond .eq 22, 3) := by decide +kernel
theorem dX11_count_30 : decode cX11_count 30 = .ok (.aload_n 0, 1) := by decide +kernel
theorem dX11_count_31 : decode cX11_count 31 = .ok (.getfield 189, 3) := by decide +kernel
theorem dX11_count_34 : decode cX11_count 34 = .ok (.iconst 1, 1) := by decide +kernel
theorem dX11_count_35 : decode cX11_count 35 = .ok (.if_icmp .ne 18, 3) := by decide +kernel
theorem dX11_count_38 : decode cX11_count 38 = .ok (.iload_n 1, 1) := by decide +kernel
theorem dX11_count_39 : decode cX11_count 39 = .ok (.bipush 7, 2) := by decide +kernel
theorem dX11_count_41 : decode cX11_count 41 = .ok (.bipush 8, 2) := by decide +kernel
theorem dX11_count_43 : decode cX11_count 43 = .ok (.invokestatic 103, 3) := by decide +kernel
theorem dX11_count_46 : decode cX11_count 46 = .ok (.ifCond .eq 7, 3) := by decide +kernel
theorem dX11_count_49 : decode cX11_count 49 = .ok (.iconst 1, 1) := by decide +kernel
theorem dX11_count_50 : decode cX11_count 50 = .ok (.goto 4, 3) := by decide +kernel
theorem dX11_count_53 : decode cX11_count 53 = .ok (.iconst 0, 1) := by decide +kernel
theorem dX11_count_54 : decode cX11_count 54 = .ok (.istore_n 2, 1) := by decide +kernel
theorem dX11_count_55 : decode cX11_count 55 = .ok (.iload_n 2, 1) := by decide +kernel
theorem dX11_count_56 : decode cX11_count 56 = .ok (.ifCond .eq 6, 3) := by decide +kernel
theorem dX11_count_59 : decode cX11_count 59 = .ok (.ldc 132, 2) := by decide +kernel
theorem dX11_count_61 : decode cX11_count 61 = .ok (.ireturn, 1) := by decide +kernel
theorem dX11_count_62 : decode cX11_count 62 = .ok (.iload_n 1, 1) := by decide +kernel
theorem dX11_count_63 : decode cX11_count 63 = .ok (.iconst 5, 1) := by decide +kernel
theorem dX11_count_64 : decode cX11_count 64 = .ok (.bipush 12, 2) := by decide +kernel
theorem dX11_count_66 : decode cX11_count 66 = .ok (.invokestatic 103, 3) := by decide +kernel
theorem dX11_count_69 : decode cX11_count 69 = .ok (.ifCond .eq 9, 3) := by decide +kernel
theorem dX11_count_72 : decode cX11_count 72 = .ok (.aload_n 0, 1) := by decide +kernel
theorem dX11_count_73 : decode cX11_count 73 = .ok (.iload_n 1, 1) := by decide +kernel
theorem dX11_count_74 : decode cX11_count 74 = .ok (.invokevirtual 217, 3) := by decide +kernel
theorem dX11_count_77 : decode cX11_count 77 = .ok (.ireturn, 1) := by decide +kernel
theorem dX11_count_78 : decode cX11_count 78 = .ok (.iload_n 1, 1) := by decide +kernel
theorem dX11_count_79 : decode cX11_count 79 = .ok (.tableswitch 108 0 14 #[73, 78, 83, 88, 93, 108, 108, 108, 108, 108, 108, 108, 108, 98, 103], 73) := by decide +kernel
theorem dX11_count_152 : decode cX11_count 152 = .ok (.aload_n 0, 1) := by decide +kernel
theorem dX11_count_153 : decode cX11_count 153 = .ok (.getfield 189, 3) := by decide +kernel
theorem dX11_count_156 : decode cX11_count 156 = .ok (.ireturn, 1) := by decide +kernel
theorem dX11_count_157 : decode cX11_count 157 = .ok (.aload_n 0, 1) := by decide +kernel
theorem dX11_count_158 : decode cX11_count 158 = .ok (.invokevirtual 199, 3) := by decide +kernel
theorem dX11_count_161 : decode cX11_count 161 = .ok (.ireturn, 1) := by decide +kernel
theorem dX11_count_162 : decode cX11_count 162 = .ok (.aload_n 0, 1) := by decide +kernel
theorem dX11_count_163 : decode cX11_count 163 = .ok (.getfield 163, 3) := by decide +kernel
theorem dX11_count_166 : decode cX11_count 166 = .ok (.ireturn, 1) := by decide +kernel
theorem dX11_count_167 : decode cX11_count 167 = .ok (.aload_n 0, 1) := by decide +kernel
theorem dX11_count_168 : decode cX11_count 168 = .ok (.getfield 166, 3) := by decide +kernel
theorem dX11_count_171 : decode cX11_count 171 = .ok (.ireturn, 1) := by decide +kernel
theorem dX11_count_172 : decode cX11_count 172 = .ok (.aload_n 0, 1) := by decide +kernel
theorem dX11_count_173 : decode cX11_count 173 = .ok (.invokevirtual 220, 3) := by decide +kernel
theorem dX11_count_176 : decode cX11_count 176 = .ok (.ireturn, 1) := by decide +kernel
theorem dX11_count_177 : decode cX11_count 177 = .ok (.aload_n 0, 1) := by decide +kernel
theorem dX11_count_178 : decode cX11_count 178 = .ok (.getfield 124, 3) := by decide +kernel
theorem dX11_count_181 : decode cX11_count 181 = .ok (.ireturn, 1) := by decide +kernel
theorem dX11_count_182 : decode cX11_count 182 = .ok (.aload_n 0, 1) := by decide +kernel
theorem dX11_count_183 : decode cX11_count 183 = .ok (.getfield 128, 3) := by decide +kernel
theorem dX11_count_186 : decode cX11_count 186 = .ok (.ireturn, 1) := by decide +kernel
theorem dX11_count_187 : decode cX11_count 187 = .ok (.aload_n 0, 1) := by decide +kernel
theorem dX11_count_188 : decode cX11_count 188 = .ok (.getfield 35, 3) := by decide +kernel
theorem dX11_count_191 : decode cX11_count 191 = .ok (.iload_n 1, 1) := by decide +kernel
theorem dX11_count_192 : decode cX11_count 192 = .ok (.bipush 15, 2) := by decide +kernel
theorem dX11_count_194 : decode cX11_count 194 = .ok (.isub, 1) := by decide +kernel
theorem dX11_count_195 : decode cX11_count 195 = .ok (.iaload, 1) := by decide +kernel
theorem dX11_count_196 : decode cX11_count 196 = .ok (.ireturn, 1) := by decide +kernel
theorem dJ9_floorDiv_7cf53_0 : decode cJ9_floorDiv_7cf53 0 = .ok (.iload_n 0, 1) := by decide +kernel
theorem dJ9_floorDiv_7cf53_1 : decode cJ9_floorDiv_7cf53 1 = .ok (.iload_n 1, 1) := by decide +kernel
theorem dJ9_floorDiv_7cf53_2 : decode cJ9_floorDiv_7cf53 2 = .ok (.idiv, 1) := by decide +kernel
theorem dJ9_floorDiv_7cf53_3 : decode cJ9_floorDiv_7cf53 3 = .ok (.istore_n 2, 1) := by decide +kernel
theorem dJ9_floorDiv_7cf53_4 : decode cJ9_floorDiv_7cf53 4 = .ok (.iload_n 0, 1) := by decide +kernel
theorem dJ9_floorDiv_7cf53_5 : decode cJ9_floorDiv_7cf53 5 = .ok (.iload_n 1, 1) := by decide +kernel
theorem dJ9_floorDiv_7cf53_6 : decode cJ9_floorDiv_7cf53 6 = .ok (.ixor, 1) := by decide +kernel
theorem dJ9_floorDiv_7cf53_7 : decode cJ9_floorDiv_7cf53 7 = .ok (.ifCond .ge 14, 3) := by decide +kernel
theorem dJ9_floorDiv_7cf53_10 : decode cJ9_floorDiv_7cf53 10 = .ok (.iload_n 2, 1) := by decide +kernel
theorem dJ9_floorDiv_7cf53_11 : decode cJ9_floorDiv_7cf53 11 = .ok (.iload_n 1, 1) := by decide +kernel
theorem dJ9_floorDiv_7cf53_12 : decode cJ9_floorDiv_7cf53 12 = .ok (.imul, 1) := by decide +kernel
theorem dJ9_floorDiv_7cf53_13 : decode cJ9_floorDiv_7cf53 13 = .ok (.iload_n 0, 1) := by decide +kernel
theorem dJ9_floorDiv_7cf53_14 : decode cJ9_floorDiv_7cf53 14 = .ok (.if_icmp .eq 7, 3) := by decide +kernel
theorem dJ9_floorDiv_7cf53_17 : decode cJ9_floorDiv_7cf53 17 = .ok (.iload_n 2, 1) := by decide +kernel
theorem dJ9_floorDiv_7cf53_18 : decode cJ9_floorDiv_7cf53 18 = .ok (.iconst 1, 1) := by decide +kernel
theorem dJ9_floorDiv_7cf53_19 : decode cJ9_floorDiv_7cf53 19 = .ok (.isub, 1) := by decide +kernel
theorem dJ9_floorDiv_7cf53_20 : decode cJ9_floorDiv_7cf53 20 = .ok (.ireturn, 1) := by decide +kernel
theorem dJ9_floorDiv_7cf53_21 : decode cJ9_floorDiv_7cf53 21 = .ok (.iload_n 2, 1) := by decide +kernel
theorem dJ9_floorDiv_7cf53_22 : decode cJ9_floorDiv_7cf53 22 = .ok (.ireturn, 1) := by decide +kernel
theorem dJ9_floorMod_7cf53_0 : decode cJ9_floorMod_7cf53 0 = .ok (.iload_n 0, 1) := by decide +kernel
theorem dJ9_floorMod_7cf53_1 : decode cJ9_floorMod_7cf53 1 = .ok (.iload_n 1, 1) := by decide +kernel
theorem dJ9_floorMod_7cf53_2 : decode cJ9_floorMod_7cf53 2 = .ok (.irem, 1) := by decide +kernel
theorem dJ9_floorMod_7cf53_3 : decode cJ9_floorMod_7cf53 3 = .ok (.istore_n 2, 1) := by decide +kernel
theorem dJ9_floorMod_7cf53_4 : decode cJ9_floorMod_7cf53 4 = .ok (.iload_n 0, 1) := by decide +kernel
theorem dJ9_floorMod_7cf53_5 : decode cJ9_floorMod_7cf53 5 = .ok (.iload_n 1, 1) := by decide +kernel
theorem dJ9_floorMod_7cf53_6 : decode cJ9_floorMod_7cf53 6 = .ok (.ixor, 1) := by decide +kernel
theorem dJ9_floorMod_7cf53_7 : decode cJ9_floorMod_7cf53 7 = .ok (.ifCond .ge 11, 3) := by decide +kernel
theorem dJ9_floorMod_7cf53_10 : decode cJ9_floorMod_7cf53 10 = .ok (.iload_n 2, 1) := by decide +kernel
theorem dJ9_floorMod_7cf53_11 : decode cJ9_floorMod_7cf53 11 = .ok (.ifCond .eq 7, 3) := by decide +kernel
theorem dJ9_floorMod_7cf53_14 : decode cJ9_floorMod_7cf53 14 = .ok (.iload_n 2, 1) := by decide +kernel
theorem dJ9_floorMod_7cf53_15 : decode cJ9_floorMod_7cf53 15 = .ok (.iload_n 1, 1) := by decide +kernel
theorem dJ9_floorMod_7cf53_16 : decode cJ9_floorMod_7cf53 16 = .ok (.iadd, 1) := by decide +kernel
theorem dJ9_floorMod_7cf53_17 : decode cJ9_floorMod_7cf53 17 = .ok (.ireturn, 1) := by decide +kernel
theorem dJ9_floorMod_7cf53_18 : decode cJ9_floorMod_7cf53 18 = .ok (.iload_n 2, 1) := by decide +kernel
theorem dJ9_floorMod_7cf53_19 : decode cJ9_floorMod_7cf53 19 = .ok (.ireturn, 1) := by decide +kernel
theorem dJ9_abs_0f7a4_0 : decode cJ9_abs_0f7a4 0 = .ok (.iload_n 0, 1) := by decide +kernel
theorem dJ9_abs_0f7a4_1 : decode cJ9_abs_0f7a4 1 = .ok (.ifCond .ge 8, 3) := by decide +kernel
theorem dJ9_abs_0f7a4_4 : decode cJ9_abs_0f7a4 4 = .ok (.iload_n 0, 1) := by decide +kernel
theorem dJ9_abs_0f7a4_5 : decode cJ9_abs_0f7a4 5 = .ok (.ineg, 1) := by decide +kernel
theorem dJ9_abs_0f7a4_6 : decode cJ9_abs_0f7a4 6 = .ok (.goto 4, 3) := by decide +kernel
theorem dJ9_abs_0f7a4_9 : decode cJ9_abs_0f7a4 9 = .ok (.iload_n 0, 1) := by decide +kernel
theorem dJ9_abs_0f7a4_10 : decode cJ9_abs_0f7a4 10 = .ok (.ireturn, 1) := by decide +kernel
theorem dL_law_0 : decode cL_law 0 = .ok (.new 7, 3) := by decide +kernel
theorem dL_law_3 : decode cL_law 3 = .ok (.dup, 1) := by decide +kernel
theorem dL_law_4 : decode cL_law 4 = .ok (.invokespecial 9, 3) := by decide +kernel
theorem dL_law_7 : decode cL_law 7 = .ok (.astore_n 1, 1) := by decide +kernel
theorem dL_law_8 : decode cL_law 8 = .ok (.new 10, 3) := by decide +kernel
theorem dL_law_11 : decode cL_law 11 = .ok (.dup, 1) := by decide +kernel
theorem dL_law_12 : decode cL_law 12 = .ok (.invokespecial 12, 3) := by decide +kernel
theorem dL_law_15 : decode cL_law 15 = .ok (.astore_n 2, 1) := by decide +kernel
theorem dL_law_16 : decode cL_law 16 = .ok (.iconst 0, 1) := by decide +kernel
theorem dL_law_17 : decode cL_law 17 = .ok (.istore_n 3, 1) := by decide +kernel
theorem dL_law_18 : decode cL_law 18 = .ok (.iload_n 3, 1) := by decide +kernel
theorem dL_law_19 : decode cL_law 19 = .ok (.aload_n 0, 1) := by decide +kernel
theorem dL_law_20 : decode cL_law 20 = .ok (.arraylength, 1) := by decide +kernel
theorem dL_law_21 : decode cL_law 21 = .ok (.bipush 6, 2) := by decide +kernel
theorem dL_law_23 : decode cL_law 23 = .ok (.isub, 1) := by decide +kernel
theorem dL_law_24 : decode cL_law 24 = .ok (.if_icmp .gt 888, 3) := by decide +kernel
theorem dL_law_27 : decode cL_law 27 = .ok (.aload_n 0, 1) := by decide +kernel
theorem dL_law_28 : decode cL_law 28 = .ok (.iload_n 3, 1) := by decide +kernel
theorem dL_law_29 : decode cL_law 29 = .ok (.iaload, 1) := by decide +kernel
theorem dL_law_30 : decode cL_law 30 = .ok (.bipush 31, 2) := by decide +kernel
theorem dL_law_32 : decode cL_law 32 = .ok (.iand, 1) := by decide +kernel
theorem dL_law_33 : decode cL_law 33 = .ok (.tableswitch 873 0 19 #[95, 158, 211, 274, 323, 346, 371, 384, 407, 440, 473, 486, 519, 552, 585, 648, 711, 754, 817, 850], 95) := by decide +kernel
theorem dL_law_128 : decode cL_law 128 = .ok (.aload_n 1, 1) := by decide +kernel
theorem dL_law_129 : decode cL_law 129 = .ok (.aload_n 0, 1) := by decide +kernel
theorem dL_law_130 : decode cL_law 130 = .ok (.iload_n 3, 1) := by decide +kernel
theorem dL_law_131 : decode cL_law 131 = .ok (.iconst 1, 1) := by decide +kernel
theorem dL_law_132 : decode cL_law 132 = .ok (.iadd, 1) := by decide +kernel
theorem dL_law_133 : decode cL_law 133 = .ok (.iaload, 1) := by decide +kernel
theorem dL_law_134 : decode cL_law 134 = .ok (.aload_n 0, 1) := by decide +kernel
theorem dL_law_135 : decode cL_law 135 = .ok (.iload_n 3, 1) := by decide +kernel
theorem dL_law_136 : decode cL_law 136 = .ok (.iconst 2, 1) := by decide +kernel
theorem dL_law_137 : decode cL_law 137 = .ok (.iadd, 1) := by decide +kernel
theorem dL_law_138 : decode cL_law 138 = .ok (.iaload, 1) := by decide +kernel
theorem dL_law_139 : decode cL_law 139 = .ok (.aload_n 0, 1) := by decide +kernel
theorem dL_law_140 : decode cL_law 140 = .ok (.iload_n 3, 1) := by decide +kernel
theorem dL_law_141 : decode cL_law 141 = .ok (.iconst 3, 1) := by decide +kernel
theorem dL_law_142 : decode cL_law 142 = .ok (.iadd, 1) := by decide +kernel
theorem dL_law_143 : decode cL_law 143 = .ok (.iaload, 1) := by decide +kernel
theorem dL_law_144 : decode cL_law 144 = .ok (.aload_n 0, 1) := by decide +kernel
theorem dL_law_145 : decode cL_law 145 = .ok (.iload_n 3, 1) := by decide +kernel
theorem dL_law_146 : decode cL_law 146 = .ok (.iconst 4, 1) := by decide +kernel
theorem dL_law_147 : decode cL_law 147 = .ok (.iadd, 1) := by decide +kernel
theorem dL_law_148 : decode cL_law 148 = .ok (.iaload, 1) := by decide +kernel
theorem dL_law_149 : decode cL_law 149 = .ok (.aload_n 0, 1) := by decide +kernel
theorem dL_law_150 : decode cL_law 150 = .ok (.iload_n 3, 1) := by decide +kernel
theorem dL_law_151 : decode cL_law 151 = .ok (.iconst 5, 1) := by decide +kernel
theorem dL_law_152 : decode cL_law 152 = .ok (.iadd, 1) := by decide +kernel
theorem dL_law_153 : decode cL_law 153 = .ok (.iaload, 1) := by decide +kernel
theorem dL_law_154 : decode cL_law 154 = .ok (.invokevirtual 13, 3) := by decide +kernel
theorem dL_law_157 : decode cL_law 157 = .ok (.aload_n 2, 1) := by decide +kernel
theorem dL_law_158 : decode cL_law 158 = .ok (.aload_n 0, 1) := by decide +kernel
theorem dL_law_159 : decode cL_law 159 = .ok (.iload_n 3, 1) := by decide +kernel
theorem dL_law_160 : decode cL_law 160 = .ok (.iconst 1, 1) := by decide +kernel
theorem dL_law_161 : decode cL_law 161 = .ok (.iadd, 1) := by decide +kernel
theorem dL_law_162 : decode cL_law 162 = .ok (.iaload, 1) := by decide +kernel
theorem dL_law_163 : decode cL_law 163 = .ok (.aload_n 0, 1) := by decide +kernel
theorem dL_law_164 : decode cL_law 164 = .ok (.iload_n 3, 1) := by decide +kernel
theorem dL_law_165 : decode cL_law 165 = .ok (.iconst 2, 1) := by decide +kernel
theorem dL_law_166 : decode cL_law 166 = .ok (.iadd, 1) := by decide +kernel
theorem dL_law_167 : decode cL_law 167 = .ok (.iaload, 1) := by decide +kernel
theorem dL_law_168 : decode cL_law 168 = .ok (.aload_n 0, 1) := by decide +kernel
theorem dL_law_169 : decode cL_law 169 = .ok (.iload_n 3, 1) := by decide +kernel
theorem dL_law_170 : decode cL_law 170 = .ok (.iconst 3, 1) := by decide +kernel
theorem dL_law_171 : decode cL_law 171 = .ok (.iadd, 1) := by decide +kernel
theorem dL_law_172 : decode cL_law 172 = .ok (.iaload, 1) := by decide +kernel
theorem dL_law_173 : decode cL_law 173 = .ok (.aload_n 0, 1) := by decide +kernel
theorem dL_law_174 : decode cL_law 174 = .ok (.iload_n 3, 1) := by decide +kernel
theorem dL_law_175 : decode cL_law 175 = .ok (.iconst 4, 1) := by decide +kernel
theorem dL_law_176 : decode cL_law 176 = .ok (.iadd, 1) := by decide +kernel
theorem dL_law_177 : decode cL_law 177 = .ok (.iaload, 1) := by decide +kernel
theorem dL_law_178 : decode cL_law 178 = .ok (.aload_n 0, 1) := by decide +kernel
theorem dL_law_179 : decode cL_law 179 = .ok (.iload_n 3, 1) := by decide +kernel
theorem dL_law_180 : decode cL_law 180 = .ok (.iconst 5, 1) := by decide +kernel
theorem dL_law_181 : decode cL_law 181 = .ok (.iadd, 1) := by decide +kernel
theorem dL_law_182 : decode cL_law 182 = .ok (.iaload, 1) := by decide +kernel
theorem dL_law_183 : decode cL_law 183 = .ok (.invokevirtual 17, 3) := by decide +kernel
theorem dL_law_186 : decode cL_law 186 = .ok (.if_icmp .eq 720, 3) := by decide +kernel
theorem dL_law_189 : decode cL_law 189 = .ok (.iconst 0, 1) := by decide +kernel
theorem dL_law_190 : decode cL_law 190 = .ok (.ireturn, 1) := by decide +kernel
theorem dL_law_191 : decode cL_law 191 = .ok (.aload_n 1, 1) := by decide +kernel
theorem dL_law_192 : decode cL_law 192 = .ok (.aload_n 0, 1) := by decide +kernel
theorem dL_law_193 : decode cL_law 193 = .ok (.iload_n 3, 1) := by decide +kernel
theorem dL_law_194 : decode cL_law 194 = .ok (.iconst 1, 1) := by decide +kernel
theorem dL_law_195 : decode cL_law 195 = .ok (.iadd, 1) := by decide +kernel
theorem dL_law_196 : decode cL_law 196 = .ok (.iaload, 1) := by decide +kernel
theorem dL_law_197 : decode cL_law 197 = .ok (.aload_n 0, 1) := by decide +kernel
theorem dL_law_198 : decode cL_law 198 = .ok (.iload_n 3, 1) := by decide +kernel
theorem dL_law_199 : decode cL_law 199 = .ok (.iconst 2, 1) := by decide +kernel
theorem dL_law_200 : decode cL_law 200 = .ok (.iadd, 1) := by decide +kernel
theorem dL_law_201 : decode cL_law 201 = .ok (.iaload, 1) := by decide +kernel
theorem dL_law_202 : decode cL_law 202 = .ok (.aload_n 0, 1) := by decide +kernel
theorem dL_law_203 : decode cL_law 203 = .ok (.iload_n 3, 1) := by decide +kernel
theorem dL_law_204 : decode cL_law 204 = .ok (.iconst 3, 1) := by decide +kernel
theorem dL_law_205 : decode cL_law 205 = .ok (.iadd, 1) := by decide +kernel
theorem dL_law_206 : decode cL_law 206 = .ok (.iaload, 1) := by decide +kernel
theorem dL_law_207 : decode cL_law 207 = .ok (.aload_n 0, 1) := by decide +kernel
theorem dL_law_208 : decode cL_law 208 = .ok (.iload_n 3, 1) := by decide +kernel
theorem dL_law_209 : decode cL_law 209 = .ok (.iconst 4, 1) := by decide +kernel
theorem dL_law_210 : decode cL_law 210 = .ok (.iadd, 1) := by decide +kernel
theorem dL_law_211 : decode cL_law 211 = .ok (.iaload, 1) := by decide +kernel
theorem dL_law_212 : decode cL_law 212 = .ok (.invokevirtual 18, 3) := by decide +kernel
theorem dL_law_215 : decode cL_law 215 = .ok (.aload_n 2, 1) := by decide +kernel
theorem dL_law_216 : decode cL_law 216 = .ok (.aload_n 0, 1) := by decide +kernel
theorem dL_law_217 : decode cL_law 217 = .ok (.iload_n 3, 1) := by decide +kernel
theorem dL_law_218 : decode cL_law 218 = .ok (.iconst 1, 1) := by decide +kernel
theorem dL_law_219 : decode cL_law 219 = .ok (.iadd, 1) := by decide +kernel
theorem dL_law_220 : decode cL_law 220 = .ok (.iaload, 1) := by decide +kernel
theorem dL_law_221 : decode cL_law 221 = .ok (.aload_n 0, 1) := by decide +kernel
theorem dL_law_222 : decode cL_law 222 = .ok (.iload_n 3, 1) := by decide +kernel
theorem dL_law_223 : decode cL_law 223 = .ok (.iconst 2, 1) := by decide +kernel
theorem dL_law_224 : decode cL_law 224 = .ok (.iadd, 1) := by decide +kernel
theorem dL_law_225 : decode cL_law 225 = .ok (.iaload, 1) := by decide +kernel
theorem dL_law_226 : decode cL_law 226 = .ok (.aload_n 0, 1) := by decide +kernel
theorem dL_law_227 : decode cL_law 227 = .ok (.iload_n 3, 1) := by decide +kernel
theorem dL_law_228 : decode cL_law 228 = .ok (.iconst 3, 1) := by decide +kernel
theorem dL_law_229 : decode cL_law 229 = .ok (.iadd, 1) := by decide +kernel
theorem dL_law_230 : decode cL_law 230 = .ok (.iaload, 1) := by decide +kernel
theorem dL_law_231 : decode cL_law 231 = .ok (.aload_n 0, 1) := by decide +kernel
theorem dL_law_232 : decode cL_law 232 = .ok (.iload_n 3, 1) := by decide +kernel
theorem dL_law_233 : decode cL_law 233 = .ok (.iconst 4, 1) := by decide +kernel
theorem dL_law_234 : decode cL_law 234 = .ok (.iadd, 1) := by decide +kernel
theorem dL_law_235 : decode cL_law 235 = .ok (.iaload, 1) := by decide +kernel
theorem dL_law_236 : decode cL_law 236 = .ok (.invokevirtual 22, 3) := by decide +kernel
theorem dL_law_239 : decode cL_law 239 = .ok (.if_icmp .eq 667, 3) := by decide +kernel
theorem dL_law_242 : decode cL_law 242 = .ok (.iconst 0, 1) := by decide +kernel
theorem dL_law_243 : decode cL_law 243 = .ok (.ireturn, 1) := by decide +kernel
theorem dL_law_244 : decode cL_law 244 = .ok (.aload_n 1, 1) := by decide +kernel
theorem dL_law_245 : decode cL_law 245 = .ok (.aload_n 0, 1) := by decide +kernel
theorem dL_law_246 : decode cL_law 246 = .ok (.iload_n 3, 1) := by decide +kernel
theorem dL_law_247 : decode cL_law 247 = .ok (.iconst 1, 1) := by decide +kernel
theorem dL_law_248 : decode cL_law 248 = .ok (.iadd, 1) := by decide +kernel
theorem dL_law_249 : decode cL_law 249 = .ok (.iaload, 1) := by decide +kernel
theorem dL_law_250 : decode cL_law 250 = .ok (.aload_n 0, 1) := by decide +kernel
theorem dL_law_251 : decode cL_law 251 = .ok (.iload_n 3, 1) := by decide +kernel
theorem dL_law_252 : decode cL_law 252 = .ok (.iconst 2, 1) := by decide +kernel
theorem dL_law_253 : decode cL_law 253 = .ok (.iadd, 1) := by decide +kernel
theorem dL_law_254 : decode cL_law 254 = .ok (.iaload, 1) := by decide +kernel
theorem dL_law_255 : decode cL_law 255 = .ok (.aload_n 0, 1) := by decide +kernel
theorem dL_law_256 : decode cL_law 256 = .ok (.iload_n 3, 1) := by decide +kernel
theorem dL_law_257 : decode cL_law 257 = .ok (.iconst 3, 1) := by decide +kernel
theorem dL_law_258 : decode cL_law 258 = .ok (.iadd, 1) := by decide +kernel
theorem dL_law_259 : decode cL_law 259 = .ok (.iaload, 1) := by decide +kernel
theorem dL_law_260 : decode cL_law 260 = .ok (.aload_n 0, 1) := by decide +kernel
theorem dL_law_261 : decode cL_law 261 = .ok (.iload_n 3, 1) := by decide +kernel
theorem dL_law_262 : decode cL_law 262 = .ok (.iconst 4, 1) := by decide +kernel
theorem dL_law_263 : decode cL_law 263 = .ok (.iadd, 1) := by decide +kernel
theorem dL_law_264 : decode cL_law 264 = .ok (.iaload, 1) := by decide +kernel
theorem dL_law_265 : decode cL_law 265 = .ok (.aload_n 0, 1) := by decide +kernel
theorem dL_law_266 : decode cL_law 266 = .ok (.iload_n 3, 1) := by decide +kernel
theorem dL_law_267 : decode cL_law 267 = .ok (.iconst 5, 1) := by decide +kernel
theorem dL_law_268 : decode cL_law 268 = .ok (.iadd, 1) := by decide +kernel
theorem dL_law_269 : decode cL_law 269 = .ok (.iaload, 1) := by decide +kernel
theorem dL_law_270 : decode cL_law 270 = .ok (.invokevirtual 23, 3) := by decide +kernel
theorem dL_law_273 : decode cL_law 273 = .ok (.aload_n 2, 1) := by decide +kernel
theorem dL_law_274 : decode cL_law 274 = .ok (.aload_n 0, 1) := by decide +kernel
theorem dL_law_275 : decode cL_law 275 = .ok (.iload_n 3, 1) := by decide +kernel
theorem dL_law_276 : decode cL_law 276 = .ok (.iconst 1, 1) := by decide +kernel
theorem dL_law_277 : decode cL_law 277 = .ok (.iadd, 1) := by decide +kernel
theorem dL_law_278 : decode cL_law 278 = .ok (.iaload, 1) := by decide +kernel
theorem dL_law_279 : decode cL_law 279 = .ok (.aload_n 0, 1) := by decide +kernel
theorem dL_law_280 : decode cL_law 280 = .ok (.iload_n 3, 1) := by decide +kernel
theorem dL_law_281 : decode cL_law 281 = .ok (.iconst 2, 1) := by decide +kernel
theorem dL_law_282 : decode cL_law 282 = .ok (.iadd, 1) := by decide +kernel
theorem dL_law_283 : decode cL_law 283 = .ok (.iaload, 1) := by decide +kernel
theorem dL_law_284 : decode cL_law 284 = .ok (.aload_n 0, 1) := by decide +kernel
theorem dL_law_285 : decode cL_law 285 = .ok (.iload_n 3, 1) := by decide +kernel
theorem dL_law_286 : decode cL_law 286 = .ok (.iconst 3, 1) := by decide +kernel
theorem dL_law_287 : decode cL_law 287 = .ok (.iadd, 1) := by decide +kernel
theorem dL_law_288 : decode cL_law 288 = .ok (.iaload, 1) := by decide +kernel
theorem dL_law_289 : decode cL_law 289 = .ok (.aload_n 0, 1) := by decide +kernel
theorem dL_law_290 : decode cL_law 290 = .ok (.iload_n 3, 1) := by decide +kernel
theorem dL_law_291 : decode cL_law 291 = .ok (.iconst 4, 1) := by decide +kernel
theorem dL_law_292 : decode cL_law 292 = .ok (.iadd, 1) := by decide +kernel
theorem dL_law_293 : decode cL_law 293 = .ok (.iaload, 1) := by decide +kernel
theorem dL_law_294 : decode cL_law 294 = .ok (.aload_n 0, 1) := by decide +kernel
theorem dL_law_295 : decode cL_law 295 = .ok (.iload_n 3, 1) := by decide +kernel
theorem dL_law_296 : decode cL_law 296 = .ok (.iconst 5, 1) := by decide +kernel
theorem dL_law_297 : decode cL_law 297 = .ok (.iadd, 1) := by decide +kernel
theorem dL_law_298 : decode cL_law 298 = .ok (.iaload, 1) := by decide +kernel
theorem dL_law_299 : decode cL_law 299 = .ok (.invokevirtual 26, 3) := by decide +kernel
theorem dL_law_302 : decode cL_law 302 = .ok (.if_icmp .eq 604, 3) := by decide +kernel
theorem dL_law_305 : decode cL_law 305 = .ok (.iconst 0, 1) := by decide +kernel
theorem dL_law_306 : decode cL_law 306 = .ok (.ireturn, 1) := by decide +kernel
theorem dL_law_307 : decode cL_law 307 = .ok (.aload_n 1, 1) := by decide +kernel
theorem dL_law_308 : decode cL_law 308 = .ok (.aload_n 0, 1) := by decide +kernel
theorem dL_law_309 : decode cL_law 309 = .ok (.iload_n 3, 1) := by decide +kernel
theorem dL_law_310 : decode cL_law 310 = .ok (.iconst 1, 1) := by decide +kernel
theorem dL_law_311 : decode cL_law 311 = .ok (.iadd, 1) := by decide +kernel
theorem dL_law_312 : decode cL_law 312 = .ok (.iaload, 1) := by decide +kernel
theorem dL_law_313 : decode cL_law 313 = .ok (.aload_n 0, 1) := by decide +kernel
theorem dL_law_314 : decode cL_law 314 = .ok (.iload_n 3, 1) := by decide +kernel
theorem dL_law_315 : decode cL_law 315 = .ok (.iconst 2, 1) := by decide +kernel
theorem dL_law_316 : decode cL_law 316 = .ok (.iadd, 1) := by decide +kernel
theorem dL_law_317 : decode cL_law 317 = .ok (.iaload, 1) := by decide +kernel
theorem dL_law_318 : decode cL_law 318 = .ok (.ifCond .eq 7, 3) := by decide +kernel
theorem dL_law_321 : decode cL_law 321 = .ok (.iconst 1, 1) := by decide +kernel
theorem dL_law_322 : decode cL_law 322 = .ok (.goto 4, 3) := by decide +kernel
theorem dL_law_325 : decode cL_law 325 = .ok (.iconst 0, 1) := by decide +kernel
theorem dL_law_326 : decode cL_law 326 = .ok (.invokevirtual 27, 3) := by decide +kernel
theorem dL_law_329 : decode cL_law 329 = .ok (.aload_n 2, 1) := by decide +kernel
theorem dL_law_330 : decode cL_law 330 = .ok (.aload_n 0, 1) := by decide +kernel
theorem dL_law_331 : decode cL_law 331 = .ok (.iload_n 3, 1) := by decide +kernel
theorem dL_law_332 : decode cL_law 332 = .ok (.iconst 1, 1) := by decide +kernel
theorem dL_law_333 : decode cL_law 333 = .ok (.iadd, 1) := by decide +kernel
theorem dL_law_334 : decode cL_law 334 = .ok (.iaload, 1) := by decide +kernel
theorem dL_law_335 : decode cL_law 335 = .ok (.aload_n 0, 1) := by decide +kernel
theorem dL_law_336 : decode cL_law 336 = .ok (.iload_n 3, 1) := by decide +kernel
theorem dL_law_337 : decode cL_law 337 = .ok (.iconst 2, 1) := by decide +kernel
theorem dL_law_338 : decode cL_law 338 = .ok (.iadd, 1) := by decide +kernel
theorem dL_law_339 : decode cL_law 339 = .ok (.iaload, 1) := by decide +kernel
theorem dL_law_340 : decode cL_law 340 = .ok (.ifCond .eq 7, 3) := by decide +kernel
theorem dL_law_343 : decode cL_law 343 = .ok (.iconst 1, 1) := by decide +kernel
theorem dL_law_344 : decode cL_law 344 = .ok (.goto 4, 3) := by decide +kernel
theorem dL_law_347 : decode cL_law 347 = .ok (.iconst 0, 1) := by decide +kernel
theorem dL_law_348 : decode cL_law 348 = .ok (.invokevirtual 31, 3) := by decide +kernel
theorem dL_law_351 : decode cL_law 351 = .ok (.if_icmp .eq 555, 3) := by decide +kernel
theorem dL_law_354 : decode cL_law 354 = .ok (.iconst 0, 1) := by decide +kernel
theorem dL_law_355 : decode cL_law 355 = .ok (.ireturn, 1) := by decide +kernel
theorem dL_law_356 : decode cL_law 356 = .ok (.aload_n 1, 1) := by decide +kernel
theorem dL_law_357 : decode cL_law 357 = .ok (.aload_n 0, 1) := by decide +kernel
theorem dL_law_358 : decode cL_law 358 = .ok (.iload_n 3, 1) := by decide +kernel
theorem dL_law_359 : decode cL_law 359 = .ok (.iconst 1, 1) := by decide +kernel
theorem dL_law_360 : decode cL_law 360 = .ok (.iadd, 1) := by decide +kernel
theorem dL_law_361 : decode cL_law 361 = .ok (.iaload, 1) := by decide +kernel
theorem dL_law_362 : decode cL_law 362 = .ok (.invokevirtual 32, 3) := by decide +kernel
theorem dL_law_365 : decode cL_law 365 = .ok (.aload_n 2, 1) := by decide +kernel
theorem dL_law_366 : decode cL_law 366 = .ok (.aload_n 0, 1) := by decide +kernel
theorem dL_law_367 : decode cL_law 367 = .ok (.iload_n 3, 1) := by decide +kernel
theorem dL_law_368 : decode cL_law 368 = .ok (.iconst 1, 1) := by decide +kernel
theorem dL_law_369 : decode cL_law 369 = .ok (.iadd, 1) := by decide +kernel
theorem dL_law_370 : decode cL_law 370 = .ok (.iaload, 1) := by decide +kernel
theorem dL_law_371 : decode cL_law 371 = .ok (.invokevirtual 36, 3) := by decide +kernel
theorem dL_law_374 : decode cL_law 374 = .ok (.if_icmp .eq 532, 3) := by decide +kernel
theorem dL_law_377 : decode cL_law 377 = .ok (.iconst 0, 1) := by decide +kernel
theorem dL_law_378 : decode cL_law 378 = .ok (.ireturn, 1) := by decide +kernel
theorem dL_law_379 : decode cL_law 379 = .ok (.aload_n 1, 1) := by decide +kernel
theorem dL_law_380 : decode cL_law 380 = .ok (.aload_n 0, 1) := by decide +kernel
theorem dL_law_381 : decode cL_law 381 = .ok (.iload_n 3, 1) := by decide +kernel
theorem dL_law_382 : decode cL_law 382 = .ok (.iconst 1, 1) := by decide +kernel
theorem dL_law_383 : decode cL_law 383 = .ok (.iadd, 1) := by decide +kernel
theorem dL_law_384 : decode cL_law 384 = .ok (.iaload, 1) := by decide +kernel
theorem dL_law_385 : decode cL_law 385 = .ok (.i2c, 1) := by decide +kernel
theorem dL_law_386 : decode cL_law 386 = .ok (.invokevirtual 37, 3) := by decide +kernel
theorem dL_law_389 : decode cL_law 389 = .ok (.aload_n 2, 1) := by decide +kernel
theorem dL_law_390 : decode cL_law 390 = .ok (.aload_n 0, 1) := by decide +kernel
theorem dL_law_391 : decode cL_law 391 = .ok (.iload_n 3, 1) := by decide +kernel
theorem dL_law_392 : decode cL_law 392 = .ok (.iconst 1, 1) := by decide +kernel
theorem dL_law_393 : decode cL_law 393 = .ok (.iadd, 1) := by decide +kernel
theorem dL_law_394 : decode cL_law 394 = .ok (.iaload, 1) := by decide +kernel
theorem dL_law_395 : decode cL_law 395 = .ok (.i2c, 1) := by decide +kernel
theorem dL_law_396 : decode cL_law 396 = .ok (.invokevirtual 41, 3) := by decide +kernel
theorem dL_law_399 : decode cL_law 399 = .ok (.if_icmp .eq 507, 3) := by decide +kernel
theorem dL_law_402 : decode cL_law 402 = .ok (.iconst 0, 1) := by decide +kernel
theorem dL_law_403 : decode cL_law 403 = .ok (.ireturn, 1) := by decide +kernel
theorem dL_law_404 : decode cL_law 404 = .ok (.aload_n 1, 1) := by decide +kernel
theorem dL_law_405 : decode cL_law 405 = .ok (.invokevirtual 42, 3) := by decide +kernel
theorem dL_law_408 : decode cL_law 408 = .ok (.aload_n 2, 1) := by decide +kernel
theorem dL_law_409 : decode cL_law 409 = .ok (.invokevirtual 46, 3) := by decide +kernel
theorem dL_law_412 : decode cL_law 412 = .ok (.if_icmp .eq 494, 3) := by decide +kernel
theorem dL_law_415 : decode cL_law 415 = .ok (.iconst 0, 1) := by decide +kernel
theorem dL_law_416 : decode cL_law 416 = .ok (.ireturn, 1) := by decide +kernel
theorem dL_law_417 : decode cL_law 417 = .ok (.aload_n 1, 1) := by decide +kernel
theorem dL_law_418 : decode cL_law 418 = .ok (.aload_n 0, 1) := by decide +kernel
theorem dL_law_419 : decode cL_law 419 = .ok (.iload_n 3, 1) := by decide +kernel
theorem dL_law_420 : decode cL_law 420 = .ok (.iconst 1, 1) := by decide +kernel
theorem dL_law_421 : decode cL_law 421 = .ok (.iadd, 1) := by decide +kernel
theorem dL_law_422 : decode cL_law 422 = .ok (.iaload, 1) := by decide +kernel
theorem dL_law_423 : decode cL_law 423 = .ok (.invokevirtual 47, 3) := by decide +kernel
theorem dL_law_426 : decode cL_law 426 = .ok (.aload_n 2, 1) := by decide +kernel
theorem dL_law_427 : decode cL_law 427 = .ok (.aload_n 0, 1) := by decide +kernel
theorem dL_law_428 : decode cL_law 428 = .ok (.iload_n 3, 1) := by decide +kernel
theorem dL_law_429 : decode cL_law 429 = .ok (.iconst 1, 1) := by decide +kernel
theorem dL_law_430 : decode cL_law 430 = .ok (.iadd, 1) := by decide +kernel
theorem dL_law_431 : decode cL_law 431 = .ok (.iaload, 1) := by decide +kernel
theorem dL_law_432 : decode cL_law 432 = .ok (.invokevirtual 50, 3) := by decide +kernel
theorem dL_law_435 : decode cL_law 435 = .ok (.if_icmp .eq 471, 3) := by decide +kernel
theorem dL_law_438 : decode cL_law 438 = .ok (.iconst 0, 1) := by decide +kernel
theorem dL_law_439 : decode cL_law 439 = .ok (.ireturn, 1) := by decide +kernel
theorem dL_law_440 : decode cL_law 440 = .ok (.aload_n 1, 1) := by decide +kernel
theorem dL_law_441 : decode cL_law 441 = .ok (.aload_n 0, 1) := by decide +kernel
theorem dL_law_442 : decode cL_law 442 = .ok (.iload_n 3, 1) := by decide +kernel
theorem dL_law_443 : decode cL_law 443 = .ok (.iconst 1, 1) := by decide +kernel
theorem dL_law_444 : decode cL_law 444 = .ok (.iadd, 1) := by decide +kernel
theorem dL_law_445 : decode cL_law 445 = .ok (.iaload, 1) := by decide +kernel
theorem dL_law_446 : decode cL_law 446 = .ok (.aload_n 0, 1) := by decide +kernel
theorem dL_law_447 : decode cL_law 447 = .ok (.iload_n 3, 1) := by decide +kernel
theorem dL_law_448 : decode cL_law 448 = .ok (.iconst 2, 1) := by decide +kernel
theorem dL_law_449 : decode cL_law 449 = .ok (.iadd, 1) := by decide +kernel
theorem dL_law_450 : decode cL_law 450 = .ok (.iaload, 1) := by decide +kernel
theorem dL_law_451 : decode cL_law 451 = .ok (.invokevirtual 51, 3) := by decide +kernel
theorem dL_law_454 : decode cL_law 454 = .ok (.aload_n 2, 1) := by decide +kernel
theorem dL_law_455 : decode cL_law 455 = .ok (.aload_n 0, 1) := by decide +kernel
theorem dL_law_456 : decode cL_law 456 = .ok (.iload_n 3, 1) := by decide +kernel
theorem dL_law_457 : decode cL_law 457 = .ok (.iconst 1, 1) := by decide +kernel
theorem dL_law_458 : decode cL_law 458 = .ok (.iadd, 1) := by decide +kernel
theorem dL_law_459 : decode cL_law 459 = .ok (.iaload, 1) := by decide +kernel
theorem dL_law_460 : decode cL_law 460 = .ok (.aload_n 0, 1) := by decide +kernel
theorem dL_law_461 : decode cL_law 461 = .ok (.iload_n 3, 1) := by decide +kernel
theorem dL_law_462 : decode cL_law 462 = .ok (.iconst 2, 1) := by decide +kernel
theorem dL_law_463 : decode cL_law 463 = .ok (.iadd, 1) := by decide +kernel
theorem dL_law_464 : decode cL_law 464 = .ok (.iaload, 1) := by decide +kernel
theorem dL_law_465 : decode cL_law 465 = .ok (.invokevirtual 55, 3) := by decide +kernel
theorem dL_law_468 : decode cL_law 468 = .ok (.if_icmp .eq 438, 3) := by decide +kernel
theorem dL_law_471 : decode cL_law 471 = .ok (.iconst 0, 1) := by decide +kernel
theorem dL_law_472 : decode cL_law 472 = .ok (.ireturn, 1) := by decide +kernel
theorem dL_law_473 : decode cL_law 473 = .ok (.aload_n 1, 1) := by decide +kernel
theorem dL_law_474 : decode cL_law 474 = .ok (.aload_n 0, 1) := by decide +kernel
theorem dL_law_475 : decode cL_law 475 = .ok (.iload_n 3, 1) := by decide +kernel
theorem dL_law_476 : decode cL_law 476 = .ok (.iconst 1, 1) := by decide +kernel
theorem dL_law_477 : decode cL_law 477 = .ok (.iadd, 1) := by decide +kernel
theorem dL_law_478 : decode cL_law 478 = .ok (.iaload, 1) := by decide +kernel
theorem dL_law_479 : decode cL_law 479 = .ok (.aload_n 0, 1) := by decide +kernel
theorem dL_law_480 : decode cL_law 480 = .ok (.iload_n 3, 1) := by decide +kernel
theorem dL_law_481 : decode cL_law 481 = .ok (.iconst 2, 1) := by decide +kernel
theorem dL_law_482 : decode cL_law 482 = .ok (.iadd, 1) := by decide +kernel
theorem dL_law_483 : decode cL_law 483 = .ok (.iaload, 1) := by decide +kernel
theorem dL_law_484 : decode cL_law 484 = .ok (.invokevirtual 56, 3) := by decide +kernel
theorem dL_law_487 : decode cL_law 487 = .ok (.aload_n 2, 1) := by decide +kernel
theorem dL_law_488 : decode cL_law 488 = .ok (.aload_n 0, 1) := by decide +kernel
theorem dL_law_489 : decode cL_law 489 = .ok (.iload_n 3, 1) := by decide +kernel
theorem dL_law_490 : decode cL_law 490 = .ok (.iconst 1, 1) := by decide +kernel
theorem dL_law_491 : decode cL_law 491 = .ok (.iadd, 1) := by decide +kernel
theorem dL_law_492 : decode cL_law 492 = .ok (.iaload, 1) := by decide +kernel
theorem dL_law_493 : decode cL_law 493 = .ok (.aload_n 0, 1) := by decide +kernel
theorem dL_law_494 : decode cL_law 494 = .ok (.iload_n 3, 1) := by decide +kernel
theorem dL_law_495 : decode cL_law 495 = .ok (.iconst 2, 1) := by decide +kernel
theorem dL_law_496 : decode cL_law 496 = .ok (.iadd, 1) := by decide +kernel
theorem dL_law_497 : decode cL_law 497 = .ok (.iaload, 1) := by decide +kernel
theorem dL_law_498 : decode cL_law 498 = .ok (.invokevirtual 59, 3) := by decide +kernel
theorem dL_law_501 : decode cL_law 501 = .ok (.if_icmp .eq 405, 3) := by decide +kernel
theorem dL_law_504 : decode cL_law 504 = .ok (.iconst 0, 1) := by decide +kernel
theorem dL_law_505 : decode cL_law 505 = .ok (.ireturn, 1) := by decide +kernel
theorem dL_law_506 : decode cL_law 506 = .ok (.aload_n 1, 1) := by decide +kernel
theorem dL_law_507 : decode cL_law 507 = .ok (.invokevirtual 60, 3) := by decide +kernel
theorem dL_law_510 : decode cL_law 510 = .ok (.aload_n 2, 1) := by decide +kernel
theorem dL_law_511 : decode cL_law 511 = .ok (.invokevirtual 63, 3) := by decide +kernel
theorem dL_law_514 : decode cL_law 514 = .ok (.if_icmp .eq 392, 3) := by decide +kernel
theorem dL_law_517 : decode cL_law 517 = .ok (.iconst 0, 1) := by decide +kernel
theorem dL_law_518 : decode cL_law 518 = .ok (.ireturn, 1) := by decide +kernel
theorem dL_law_519 : decode cL_law 519 = .ok (.aload_n 1, 1) := by decide +kernel
theorem dL_law_520 : decode cL_law 520 = .ok (.aload_n 0, 1) := by decide +kernel
theorem dL_law_521 : decode cL_law 521 = .ok (.iload_n 3, 1) := by decide +kernel
theorem dL_law_522 : decode cL_law 522 = .ok (.iconst 1, 1) := by decide +kernel
theorem dL_law_523 : decode cL_law 523 = .ok (.iadd, 1) := by decide +kernel
theorem dL_law_524 : decode cL_law 524 = .ok (.iaload, 1) := by decide +kernel
theorem dL_law_525 : decode cL_law 525 = .ok (.aload_n 0, 1) := by decide +kernel
theorem dL_law_526 : decode cL_law 526 = .ok (.iload_n 3, 1) := by decide +kernel
theorem dL_law_527 : decode cL_law 527 = .ok (.iconst 2, 1) := by decide +kernel
theorem dL_law_528 : decode cL_law 528 = .ok (.iadd, 1) := by decide +kernel
theorem dL_law_529 : decode cL_law 529 = .ok (.iaload, 1) := by decide +kernel
theorem dL_law_530 : decode cL_law 530 = .ok (.invokevirtual 64, 3) := by decide +kernel
theorem dL_law_533 : decode cL_law 533 = .ok (.aload_n 2, 1) := by decide +kernel
theorem dL_law_534 : decode cL_law 534 = .ok (.aload_n 0, 1) := by decide +kernel
theorem dL_law_535 : decode cL_law 535 = .ok (.iload_n 3, 1) := by decide +kernel
theorem dL_law_536 : decode cL_law 536 = .ok (.iconst 1, 1) := by decide +kernel
theorem dL_law_537 : decode cL_law 537 = .ok (.iadd, 1) := by decide +kernel
theorem dL_law_538 : decode cL_law 538 = .ok (.iaload, 1) := by decide +kernel
theorem dL_law_539 : decode cL_law 539 = .ok (.aload_n 0, 1) := by decide +kernel
theorem dL_law_540 : decode cL_law 540 = .ok (.iload_n 3, 1) := by decide +kernel
theorem dL_law_541 : decode cL_law 541 = .ok (.iconst 2, 1) := by decide +kernel
theorem dL_law_542 : decode cL_law 542 = .ok (.iadd, 1) := by decide +kernel
theorem dL_law_543 : decode cL_law 543 = .ok (.iaload, 1) := by decide +kernel
theorem dL_law_544 : decode cL_law 544 = .ok (.invokevirtual 67, 3) := by decide +kernel
theorem dL_law_547 : decode cL_law 547 = .ok (.if_icmp .eq 359, 3) := by decide +kernel
theorem dL_law_550 : decode cL_law 550 = .ok (.iconst 0, 1) := by decide +kernel
theorem dL_law_551 : decode cL_law 551 = .ok (.ireturn, 1) := by decide +kernel
theorem dL_law_552 : decode cL_law 552 = .ok (.aload_n 1, 1) := by decide +kernel
theorem dL_law_553 : decode cL_law 553 = .ok (.aload_n 0, 1) := by decide +kernel
theorem dL_law_554 : decode cL_law 554 = .ok (.iload_n 3, 1) := by decide +kernel
theorem dL_law_555 : decode cL_law 555 = .ok (.iconst 1, 1) := by decide +kernel
theorem dL_law_556 : decode cL_law 556 = .ok (.iadd, 1) := by decide +kernel
theorem dL_law_557 : decode cL_law 557 = .ok (.iaload, 1) := by decide +kernel
theorem dL_law_558 : decode cL_law 558 = .ok (.aload_n 0, 1) := by decide +kernel
theorem dL_law_559 : decode cL_law 559 = .ok (.iload_n 3, 1) := by decide +kernel
theorem dL_law_560 : decode cL_law 560 = .ok (.iconst 2, 1) := by decide +kernel
theorem dL_law_561 : decode cL_law 561 = .ok (.iadd, 1) := by decide +kernel
theorem dL_law_562 : decode cL_law 562 = .ok (.iaload, 1) := by decide +kernel
theorem dL_law_563 : decode cL_law 563 = .ok (.invokevirtual 68, 3) := by decide +kernel
theorem dL_law_566 : decode cL_law 566 = .ok (.aload_n 2, 1) := by decide +kernel
theorem dL_law_567 : decode cL_law 567 = .ok (.aload_n 0, 1) := by decide +kernel
theorem dL_law_568 : decode cL_law 568 = .ok (.iload_n 3, 1) := by decide +kernel
theorem dL_law_569 : decode cL_law 569 = .ok (.iconst 1, 1) := by decide +kernel
theorem dL_law_570 : decode cL_law 570 = .ok (.iadd, 1) := by decide +kernel
theorem dL_law_571 : decode cL_law 571 = .ok (.iaload, 1) := by decide +kernel
theorem dL_law_572 : decode cL_law 572 = .ok (.aload_n 0, 1) := by decide +kernel
theorem dL_law_573 : decode cL_law 573 = .ok (.iload_n 3, 1) := by decide +kernel
theorem dL_law_574 : decode cL_law 574 = .ok (.iconst 2, 1) := by decide +kernel
theorem dL_law_575 : decode cL_law 575 = .ok (.iadd, 1) := by decide +kernel
theorem dL_law_576 : decode cL_law 576 = .ok (.iaload, 1) := by decide +kernel
theorem dL_law_577 : decode cL_law 577 = .ok (.invokevirtual 71, 3) := by decide +kernel
theorem dL_law_580 : decode cL_law 580 = .ok (.if_icmp .eq 326, 3) := by decide +kernel
theorem dL_law_583 : decode cL_law 583 = .ok (.iconst 0, 1) := by decide +kernel
theorem dL_law_584 : decode cL_law 584 = .ok (.ireturn, 1) := by decide +kernel
theorem dL_law_585 : decode cL_law 585 = .ok (.aload_n 1, 1) := by decide +kernel
theorem dL_law_586 : decode cL_law 586 = .ok (.aload_n 0, 1) := by decide +kernel
theorem dL_law_587 : decode cL_law 587 = .ok (.iload_n 3, 1) := by decide +kernel
theorem dL_law_588 : decode cL_law 588 = .ok (.iconst 1, 1) := by decide +kernel
theorem dL_law_589 : decode cL_law 589 = .ok (.iadd, 1) := by decide +kernel
theorem dL_law_590 : decode cL_law 590 = .ok (.iaload, 1) := by decide +kernel
theorem dL_law_591 : decode cL_law 591 = .ok (.aload_n 0, 1) := by decide +kernel
theorem dL_law_592 : decode cL_law 592 = .ok (.iload_n 3, 1) := by decide +kernel
theorem dL_law_593 : decode cL_law 593 = .ok (.iconst 2, 1) := by decide +kernel
theorem dL_law_594 : decode cL_law 594 = .ok (.iadd, 1) := by decide +kernel
theorem dL_law_595 : decode cL_law 595 = .ok (.iaload, 1) := by decide +kernel
theorem dL_law_596 : decode cL_law 596 = .ok (.invokevirtual 72, 3) := by decide +kernel
theorem dL_law_599 : decode cL_law 599 = .ok (.aload_n 2, 1) := by decide +kernel
theorem dL_law_600 : decode cL_law 600 = .ok (.aload_n 0, 1) := by decide +kernel
theorem dL_law_601 : decode cL_law 601 = .ok (.iload_n 3, 1) := by decide +kernel
theorem dL_law_602 : decode cL_law 602 = .ok (.iconst 1, 1) := by decide +kernel
theorem dL_law_603 : decode cL_law 603 = .ok (.iadd, 1) := by decide +kernel
theorem dL_law_604 : decode cL_law 604 = .ok (.iaload, 1) := by decide +kernel
theorem dL_law_605 : decode cL_law 605 = .ok (.aload_n 0, 1) := by decide +kernel
theorem dL_law_606 : decode cL_law 606 = .ok (.iload_n 3, 1) := by decide +kernel
theorem dL_law_607 : decode cL_law 607 = .ok (.iconst 2, 1) := by decide +kernel
theorem dL_law_608 : decode cL_law 608 = .ok (.iadd, 1) := by decide +kernel
theorem dL_law_609 : decode cL_law 609 = .ok (.iaload, 1) := by decide +kernel
theorem dL_law_610 : decode cL_law 610 = .ok (.invokevirtual 75, 3) := by decide +kernel
theorem dL_law_613 : decode cL_law 613 = .ok (.if_icmp .eq 293, 3) := by decide +kernel
theorem dL_law_616 : decode cL_law 616 = .ok (.iconst 0, 1) := by decide +kernel
theorem dL_law_617 : decode cL_law 617 = .ok (.ireturn, 1) := by decide +kernel
theorem dL_law_618 : decode cL_law 618 = .ok (.aload_n 1, 1) := by decide +kernel
theorem dL_law_619 : decode cL_law 619 = .ok (.aload_n 0, 1) := by decide +kernel
theorem dL_law_620 : decode cL_law 620 = .ok (.iload_n 3, 1) := by decide +kernel
theorem dL_law_621 : decode cL_law 621 = .ok (.iconst 1, 1) := by decide +kernel
theorem dL_law_622 : decode cL_law 622 = .ok (.iadd, 1) := by decide +kernel
theorem dL_law_623 : decode cL_law 623 = .ok (.iaload, 1) := by decide +kernel
theorem dL_law_624 : decode cL_law 624 = .ok (.aload_n 0, 1) := by decide +kernel
theorem dL_law_625 : decode cL_law 625 = .ok (.iload_n 3, 1) := by decide +kernel
theorem dL_law_626 : decode cL_law 626 = .ok (.iconst 2, 1) := by decide +kernel
theorem dL_law_627 : decode cL_law 627 = .ok (.iadd, 1) := by decide +kernel
theorem dL_law_628 : decode cL_law 628 = .ok (.iaload, 1) := by decide +kernel
theorem dL_law_629 : decode cL_law 629 = .ok (.invokevirtual 76, 3) := by decide +kernel
theorem dL_law_632 : decode cL_law 632 = .ok (.f2d, 1) := by decide +kernel
theorem dL_law_633 : decode cL_law 633 = .ok (.dstore 4, 2) := by decide +kernel
theorem dL_law_635 : decode cL_law 635 = .ok (.aload_n 2, 1) := by decide +kernel
theorem dL_law_636 : decode cL_law 636 = .ok (.aload_n 0, 1) := by decide +kernel
theorem dL_law_637 : decode cL_law 637 = .ok (.iload_n 3, 1) := by decide +kernel
theorem dL_law_638 : decode cL_law 638 = .ok (.iconst 1, 1) := by decide +kernel
theorem dL_law_639 : decode cL_law 639 = .ok (.iadd, 1) := by decide +kernel
theorem dL_law_640 : decode cL_law 640 = .ok (.iaload, 1) := by decide +kernel
theorem dL_law_641 : decode cL_law 641 = .ok (.aload_n 0, 1) := by decide +kernel
theorem dL_law_642 : decode cL_law 642 = .ok (.iload_n 3, 1) := by decide +kernel
theorem dL_law_643 : decode cL_law 643 = .ok (.iconst 2, 1) := by decide +kernel
theorem dL_law_644 : decode cL_law 644 = .ok (.iadd, 1) := by decide +kernel
theorem dL_law_645 : decode cL_law 645 = .ok (.iaload, 1) := by decide +kernel
theorem dL_law_646 : decode cL_law 646 = .ok (.invokevirtual 80, 3) := by decide +kernel
theorem dL_law_649 : decode cL_law 649 = .ok (.f2d, 1) := by decide +kernel
theorem dL_law_650 : decode cL_law 650 = .ok (.dstore 6, 2) := by decide +kernel
theorem dL_law_652 : decode cL_law 652 = .ok (.dload 4, 2) := by decide +kernel
theorem dL_law_654 : decode cL_law 654 = .ok (.dload 6, 2) := by decide +kernel
theorem dL_law_656 : decode cL_law 656 = .ok (.dcmp .l, 1) := by decide +kernel
theorem dL_law_657 : decode cL_law 657 = .ok (.ifCond .eq 21, 3) := by decide +kernel
theorem dL_law_660 : decode cL_law 660 = .ok (.dload 4, 2) := by decide +kernel
theorem dL_law_662 : decode cL_law 662 = .ok (.dload 4, 2) := by decide +kernel
theorem dL_law_664 : decode cL_law 664 = .ok (.dcmp .l, 1) := by decide +kernel
theorem dL_law_665 : decode cL_law 665 = .ok (.ifCond .eq 11, 3) := by decide +kernel
theorem dL_law_668 : decode cL_law 668 = .ok (.dload 6, 2) := by decide +kernel
theorem dL_law_670 : decode cL_law 670 = .ok (.dload 6, 2) := by decide +kernel
theorem dL_law_672 : decode cL_law 672 = .ok (.dcmp .l, 1) := by decide +kernel
theorem dL_law_673 : decode cL_law 673 = .ok (.ifCond .ne 5, 3) := by decide +kernel
theorem dL_law_676 : decode cL_law 676 = .ok (.iconst 0, 1) := by decide +kernel
theorem dL_law_677 : decode cL_law 677 = .ok (.ireturn, 1) := by decide +kernel
theorem dL_law_678 : decode cL_law 678 = .ok (.goto 228, 3) := by decide +kernel
theorem dL_law_681 : decode cL_law 681 = .ok (.aload_n 1, 1) := by decide +kernel
theorem dL_law_682 : decode cL_law 682 = .ok (.aload_n 0, 1) := by decide +kernel
theorem dL_law_683 : decode cL_law 683 = .ok (.iload_n 3, 1) := by decide +kernel
theorem dL_law_684 : decode cL_law 684 = .ok (.iconst 1, 1) := by decide +kernel
theorem dL_law_685 : decode cL_law 685 = .ok (.iadd, 1) := by decide +kernel
theorem dL_law_686 : decode cL_law 686 = .ok (.iaload, 1) := by decide +kernel
theorem dL_law_687 : decode cL_law 687 = .ok (.aload_n 0, 1) := by decide +kernel
theorem dL_law_688 : decode cL_law 688 = .ok (.iload_n 3, 1) := by decide +kernel
theorem dL_law_689 : decode cL_law 689 = .ok (.iconst 2, 1) := by decide +kernel
theorem dL_law_690 : decode cL_law 690 = .ok (.iadd, 1) := by decide +kernel
theorem dL_law_691 : decode cL_law 691 = .ok (.iaload, 1) := by decide +kernel
theorem dL_law_692 : decode cL_law 692 = .ok (.invokevirtual 81, 3) := by decide +kernel
theorem dL_law_695 : decode cL_law 695 = .ok (.f2d, 1) := by decide +kernel
theorem dL_law_696 : decode cL_law 696 = .ok (.dstore 4, 2) := by decide +kernel
theorem dL_law_698 : decode cL_law 698 = .ok (.aload_n 2, 1) := by decide +kernel
theorem dL_law_699 : decode cL_law 699 = .ok (.aload_n 0, 1) := by decide +kernel
theorem dL_law_700 : decode cL_law 700 = .ok (.iload_n 3, 1) := by decide +kernel
theorem dL_law_701 : decode cL_law 701 = .ok (.iconst 1, 1) := by decide +kernel
theorem dL_law_702 : decode cL_law 702 = .ok (.iadd, 1) := by decide +kernel
theorem dL_law_703 : decode cL_law 703 = .ok (.iaload, 1) := by decide +kernel
theorem dL_law_704 : decode cL_law 704 = .ok (.aload_n 0, 1) := by decide +kernel
theorem dL_law_705 : decode cL_law 705 = .ok (.iload_n 3, 1) := by decide +kernel
theorem dL_law_706 : decode cL_law 706 = .ok (.iconst 2, 1) := by decide +kernel
theorem dL_law_707 : decode cL_law 707 = .ok (.iadd, 1) := by decide +kernel
theorem dL_law_708 : decode cL_law 708 = .ok (.iaload, 1) := by decide +kernel
theorem dL_law_709 : decode cL_law 709 = .ok (.invokevirtual 84, 3) := by decide +kernel
theorem dL_law_712 : decode cL_law 712 = .ok (.f2d, 1) := by decide +kernel
theorem dL_law_713 : decode cL_law 713 = .ok (.dstore 6, 2) := by decide +kernel
theorem dL_law_715 : decode cL_law 715 = .ok (.dload 4, 2) := by decide +kernel
theorem dL_law_717 : decode cL_law 717 = .ok (.dload 6, 2) := by decide +kernel
theorem dL_law_719 : decode cL_law 719 = .ok (.dcmp .l, 1) := by decide +kernel
theorem dL_law_720 : decode cL_law 720 = .ok (.ifCond .eq 21, 3) := by decide +kernel
theorem dL_law_723 : decode cL_law 723 = .ok (.dload 4, 2) := by decide +kernel
theorem dL_law_725 : decode cL_law 725 = .ok (.dload 4, 2) := by decide +kernel
theorem dL_law_727 : decode cL_law 727 = .ok (.dcmp .l, 1) := by decide +kernel
theorem dL_law_728 : decode cL_law 728 = .ok (.ifCond .eq 11, 3) := by decide +kernel
theorem dL_law_731 : decode cL_law 731 = .ok (.dload 6, 2) := by decide +kernel
theorem dL_law_733 : decode cL_law 733 = .ok (.dload 6, 2) := by decide +kernel
theorem dL_law_735 : decode cL_law 735 = .ok (.dcmp .l, 1) := by decide +kernel
theorem dL_law_736 : decode cL_law 736 = .ok (.ifCond .ne 5, 3) := by decide +kernel
theorem dL_law_739 : decode cL_law 739 = .ok (.iconst 0, 1) := by decide +kernel
theorem dL_law_740 : decode cL_law 740 = .ok (.ireturn, 1) := by decide +kernel
theorem dL_law_741 : decode cL_law 741 = .ok (.goto 165, 3) := by decide +kernel
theorem dL_law_744 : decode cL_law 744 = .ok (.aload_n 1, 1) := by decide +kernel
theorem dL_law_745 : decode cL_law 745 = .ok (.aload_n 0, 1) := by decide +kernel
theorem dL_law_746 : decode cL_law 746 = .ok (.iload_n 3, 1) := by decide +kernel
theorem dL_law_747 : decode cL_law 747 = .ok (.iconst 1, 1) := by decide +kernel
theorem dL_law_748 : decode cL_law 748 = .ok (.iadd, 1) := by decide +kernel
theorem dL_law_749 : decode cL_law 749 = .ok (.iaload, 1) := by decide +kernel
theorem dL_law_750 : decode cL_law 750 = .ok (.aload_n 0, 1) := by decide +kernel
theorem dL_law_751 : decode cL_law 751 = .ok (.iload_n 3, 1) := by decide +kernel
theorem dL_law_752 : decode cL_law 752 = .ok (.iconst 2, 1) := by decide +kernel
theorem dL_law_753 : decode cL_law 753 = .ok (.iadd, 1) := by decide +kernel
theorem dL_law_754 : decode cL_law 754 = .ok (.iaload, 1) := by decide +kernel
theorem dL_law_755 : decode cL_law 755 = .ok (.aload_n 0, 1) := by decide +kernel
theorem dL_law_756 : decode cL_law 756 = .ok (.iload_n 3, 1) := by decide +kernel
theorem dL_law_757 : decode cL_law 757 = .ok (.iconst 3, 1) := by decide +kernel
theorem dL_law_758 : decode cL_law 758 = .ok (.iadd, 1) := by decide +kernel
theorem dL_law_759 : decode cL_law 759 = .ok (.iaload, 1) := by decide +kernel
theorem dL_law_760 : decode cL_law 760 = .ok (.invokevirtual 85, 3) := by decide +kernel
theorem dL_law_763 : decode cL_law 763 = .ok (.aload_n 2, 1) := by decide +kernel
theorem dL_law_764 : decode cL_law 764 = .ok (.aload_n 0, 1) := by decide +kernel
theorem dL_law_765 : decode cL_law 765 = .ok (.iload_n 3, 1) := by decide +kernel
theorem dL_law_766 : decode cL_law 766 = .ok (.iconst 1, 1) := by decide +kernel
theorem dL_law_767 : decode cL_law 767 = .ok (.iadd, 1) := by decide +kernel
theorem dL_law_768 : decode cL_law 768 = .ok (.iaload, 1) := by decide +kernel
theorem dL_law_769 : decode cL_law 769 = .ok (.aload_n 0, 1) := by decide +kernel
theorem dL_law_770 : decode cL_law 770 = .ok (.iload_n 3, 1) := by decide +kernel
theorem dL_law_771 : decode cL_law 771 = .ok (.iconst 2, 1) := by decide +kernel
theorem dL_law_772 : decode cL_law 772 = .ok (.iadd, 1) := by decide +kernel
theorem dL_law_773 : decode cL_law 773 = .ok (.iaload, 1) := by decide +kernel
theorem dL_law_774 : decode cL_law 774 = .ok (.aload_n 0, 1) := by decide +kernel
theorem dL_law_775 : decode cL_law 775 = .ok (.iload_n 3, 1) := by decide +kernel
theorem dL_law_776 : decode cL_law 776 = .ok (.iconst 3, 1) := by decide +kernel
theorem dL_law_777 : decode cL_law 777 = .ok (.iadd, 1) := by decide +kernel
theorem dL_law_778 : decode cL_law 778 = .ok (.iaload, 1) := by decide +kernel
theorem dL_law_779 : decode cL_law 779 = .ok (.invokevirtual 89, 3) := by decide +kernel
theorem dL_law_782 : decode cL_law 782 = .ok (.if_icmp .eq 124, 3) := by decide +kernel
theorem dL_law_785 : decode cL_law 785 = .ok (.iconst 0, 1) := by decide +kernel
theorem dL_law_786 : decode cL_law 786 = .ok (.ireturn, 1) := by decide +kernel
theorem dL_law_787 : decode cL_law 787 = .ok (.aload_n 1, 1) := by decide +kernel
theorem dL_law_788 : decode cL_law 788 = .ok (.aload_n 0, 1) := by decide +kernel
theorem dL_law_789 : decode cL_law 789 = .ok (.iload_n 3, 1) := by decide +kernel
theorem dL_law_790 : decode cL_law 790 = .ok (.iconst 1, 1) := by decide +kernel
theorem dL_law_791 : decode cL_law 791 = .ok (.iadd, 1) := by decide +kernel
theorem dL_law_792 : decode cL_law 792 = .ok (.iaload, 1) := by decide +kernel
theorem dL_law_793 : decode cL_law 793 = .ok (.aload_n 0, 1) := by decide +kernel
theorem dL_law_794 : decode cL_law 794 = .ok (.iload_n 3, 1) := by decide +kernel
theorem dL_law_795 : decode cL_law 795 = .ok (.iconst 2, 1) := by decide +kernel
theorem dL_law_796 : decode cL_law 796 = .ok (.iadd, 1) := by decide +kernel
theorem dL_law_797 : decode cL_law 797 = .ok (.iaload, 1) := by decide +kernel
theorem dL_law_798 : decode cL_law 798 = .ok (.invokevirtual 90, 3) := by decide +kernel
theorem dL_law_801 : decode cL_law 801 = .ok (.f2d, 1) := by decide +kernel
theorem dL_law_802 : decode cL_law 802 = .ok (.dstore 4, 2) := by decide +kernel
theorem dL_law_804 : decode cL_law 804 = .ok (.aload_n 2, 1) := by decide +kernel
theorem dL_law_805 : decode cL_law 805 = .ok (.aload_n 0, 1) := by decide +kernel
theorem dL_law_806 : decode cL_law 806 = .ok (.iload_n 3, 1) := by decide +kernel
theorem dL_law_807 : decode cL_law 807 = .ok (.iconst 1, 1) := by decide +kernel
theorem dL_law_808 : decode cL_law 808 = .ok (.iadd, 1) := by decide +kernel
theorem dL_law_809 : decode cL_law 809 = .ok (.iaload, 1) := by decide +kernel
theorem dL_law_810 : decode cL_law 810 = .ok (.aload_n 0, 1) := by decide +kernel
theorem dL_law_811 : decode cL_law 811 = .ok (.iload_n 3, 1) := by decide +kernel
theorem dL_law_812 : decode cL_law 812 = .ok (.iconst 2, 1) := by decide +kernel
theorem dL_law_813 : decode cL_law 813 = .ok (.iadd, 1) := by decide +kernel
theorem dL_law_814 : decode cL_law 814 = .ok (.iaload, 1) := by decide +kernel
theorem dL_law_815 : decode cL_law 815 = .ok (.invokevirtual 93, 3) := by decide +kernel
theorem dL_law_818 : decode cL_law 818 = .ok (.f2d, 1) := by decide +kernel
theorem dL_law_819 : decode cL_law 819 = .ok (.dstore 6, 2) := by decide +kernel
theorem dL_law_821 : decode cL_law 821 = .ok (.dload 4, 2) := by decide +kernel
theorem dL_law_823 : decode cL_law 823 = .ok (.dload 6, 2) := by decide +kernel
theorem dL_law_825 : decode cL_law 825 = .ok (.dcmp .l, 1) := by decide +kernel
theorem dL_law_826 : decode cL_law 826 = .ok (.ifCond .eq 21, 3) := by decide +kernel
theorem dL_law_829 : decode cL_law 829 = .ok (.dload 4, 2) := by decide +kernel
theorem dL_law_831 : decode cL_law 831 = .ok (.dload 4, 2) := by decide +kernel
theorem dL_law_833 : decode cL_law 833 = .ok (.dcmp .l, 1) := by decide +kernel
theorem dL_law_834 : decode cL_law 834 = .ok (.ifCond .eq 11, 3) := by decide +kernel
theorem dL_law_837 : decode cL_law 837 = .ok (.dload 6, 2) := by decide +kernel
theorem dL_law_839 : decode cL_law 839 = .ok (.dload 6, 2) := by decide +kernel
theorem dL_law_841 : decode cL_law 841 = .ok (.dcmp .l, 1) := by decide +kernel
theorem dL_law_842 : decode cL_law 842 = .ok (.ifCond .ne 5, 3) := by decide +kernel
theorem dL_law_845 : decode cL_law 845 = .ok (.iconst 0, 1) := by decide +kernel
theorem dL_law_846 : decode cL_law 846 = .ok (.ireturn, 1) := by decide +kernel
theorem dL_law_847 : decode cL_law 847 = .ok (.goto 59, 3) := by decide +kernel
theorem dL_law_850 : decode cL_law 850 = .ok (.aload_n 1, 1) := by decide +kernel
theorem dL_law_851 : decode cL_law 851 = .ok (.aload_n 0, 1) := by decide +kernel
theorem dL_law_852 : decode cL_law 852 = .ok (.iload_n 3, 1) := by decide +kernel
theorem dL_law_853 : decode cL_law 853 = .ok (.iconst 1, 1) := by decide +kernel
theorem dL_law_854 : decode cL_law 854 = .ok (.iadd, 1) := by decide +kernel
theorem dL_law_855 : decode cL_law 855 = .ok (.iaload, 1) := by decide +kernel
theorem dL_law_856 : decode cL_law 856 = .ok (.aload_n 0, 1) := by decide +kernel
theorem dL_law_857 : decode cL_law 857 = .ok (.iload_n 3, 1) := by decide +kernel
theorem dL_law_858 : decode cL_law 858 = .ok (.iconst 2, 1) := by decide +kernel
theorem dL_law_859 : decode cL_law 859 = .ok (.iadd, 1) := by decide +kernel
theorem dL_law_860 : decode cL_law 860 = .ok (.iaload, 1) := by decide +kernel
theorem dL_law_861 : decode cL_law 861 = .ok (.invokevirtual 94, 3) := by decide +kernel
theorem dL_law_864 : decode cL_law 864 = .ok (.aload_n 2, 1) := by decide +kernel
theorem dL_law_865 : decode cL_law 865 = .ok (.aload_n 0, 1) := by decide +kernel
theorem dL_law_866 : decode cL_law 866 = .ok (.iload_n 3, 1) := by decide +kernel
theorem dL_law_867 : decode cL_law 867 = .ok (.iconst 1, 1) := by decide +kernel
theorem dL_law_868 : decode cL_law 868 = .ok (.iadd, 1) := by decide +kernel
theorem dL_law_869 : decode cL_law 869 = .ok (.iaload, 1) := by decide +kernel
theorem dL_law_870 : decode cL_law 870 = .ok (.aload_n 0, 1) := by decide +kernel
theorem dL_law_871 : decode cL_law 871 = .ok (.iload_n 3, 1) := by decide +kernel
theorem dL_law_872 : decode cL_law 872 = .ok (.iconst 2, 1) := by decide +kernel
theorem dL_law_873 : decode cL_law 873 = .ok (.iadd, 1) := by decide +kernel
theorem dL_law_874 : decode cL_law 874 = .ok (.iaload, 1) := by decide +kernel
theorem dL_law_875 : decode cL_law 875 = .ok (.invokevirtual 97, 3) := by decide +kernel
theorem dL_law_878 : decode cL_law 878 = .ok (.if_icmp .eq 28, 3) := by decide +kernel
theorem dL_law_881 : decode cL_law 881 = .ok (.iconst 0, 1) := by decide +kernel
theorem dL_law_882 : decode cL_law 882 = .ok (.ireturn, 1) := by decide +kernel
theorem dL_law_883 : decode cL_law 883 = .ok (.aload_n 1, 1) := by decide +kernel
theorem dL_law_884 : decode cL_law 884 = .ok (.aload_n 0, 1) := by decide +kernel
theorem dL_law_885 : decode cL_law 885 = .ok (.iload_n 3, 1) := by decide +kernel
theorem dL_law_886 : decode cL_law 886 = .ok (.iconst 1, 1) := by decide +kernel
theorem dL_law_887 : decode cL_law 887 = .ok (.iadd, 1) := by decide +kernel
theorem dL_law_888 : decode cL_law 888 = .ok (.iaload, 1) := by decide +kernel
theorem dL_law_889 : decode cL_law 889 = .ok (.invokevirtual 98, 3) := by decide +kernel
theorem dL_law_892 : decode cL_law 892 = .ok (.aload_n 2, 1) := by decide +kernel
theorem dL_law_893 : decode cL_law 893 = .ok (.aload_n 0, 1) := by decide +kernel
theorem dL_law_894 : decode cL_law 894 = .ok (.iload_n 3, 1) := by decide +kernel
theorem dL_law_895 : decode cL_law 895 = .ok (.iconst 1, 1) := by decide +kernel
theorem dL_law_896 : decode cL_law 896 = .ok (.iadd, 1) := by decide +kernel
theorem dL_law_897 : decode cL_law 897 = .ok (.iaload, 1) := by decide +kernel
theorem dL_law_898 : decode cL_law 898 = .ok (.invokevirtual 101, 3) := by decide +kernel
theorem dL_law_901 : decode cL_law 901 = .ok (.if_icmp .eq 5, 3) := by decide +kernel
theorem dL_law_904 : decode cL_law 904 = .ok (.iconst 0, 1) := by decide +kernel
theorem dL_law_905 : decode cL_law 905 = .ok (.ireturn, 1) := by decide +kernel
theorem dL_law_906 : decode cL_law 906 = .ok (.iinc 3 6, 3) := by decide +kernel
theorem dL_law_909 : decode cL_law 909 = .ok (.goto (-891), 3) := by decide +kernel
theorem dL_law_912 : decode cL_law 912 = .ok (.iconst 1, 1) := by decide +kernel
theorem dL_law_913 : decode cL_law 913 = .ok (.ireturn, 1) := by decide +kernel
end
section
/-! values up to the bits of a NaN -/
abbrev Sg : Type := Nat → Nat → Int32
abbrev Fl : Type := Nat → Nat → UInt32
abbrev KT : Type := Sg → Fl → Nat → List (Nat × Value) → List Value → Prop
def alV (v w : Value) : Prop := match w with
  | .float b => ∃ a, v = .float a ∧ alike32 a b = true
  | .double b => ∃ a, v = .double a ∧ alike64 a b = true
  | w => v = w
theorem alV_rf (w : Value) : alV w w := by
  cases w <;> first | rfl | exact ⟨_, rfl, alike32_refl _⟩ | exact ⟨_, rfl, alike64_refl _⟩
theorem alV_cat {v w : Value} (h : alV v w) : v.category = w.category := by
  cases w <;> first | (obtain ⟨a, rfl, -⟩ := h; rfl) | (cases h; rfl)
def alS : List Value → List Value → Prop
  | [], [] => True
  | v :: vs, w :: ws => alV v w ∧ alS vs ws
  | _, _ => False
theorem alS_rf : ∀ l : List Value, alS l l
  | [] => True.intro
  | v :: vs => ⟨alV_rf v, alS_rf vs⟩
theorem alS_cons {x : List Value} {w : Value} {ws : List Value} (h : alS x (w :: ws)) : ∃ v vs, x = v :: vs ∧ alV v w ∧ alS vs ws := by
  cases x with
  | nil => exact h.elim
  | cons v vs => exact ⟨v, vs, rfl, h.1, h.2⟩
theorem alS_nil {x : List Value} (h : alS x []) : x = [] := by
  cases x with
  | nil => rfl
  | cons v vs => exact h.elim
theorem alS_int {x : List Value} {a : Int32} {ws : List Value} (h : alS x (.int a :: ws)) : ∃ vs, x = .int a :: vs ∧ alS vs ws := by
  obtain ⟨v, vs, rfl, h1, h2⟩ := alS_cons h
  cases (h1 : v = .int a)
  exact ⟨vs, rfl, h2⟩
theorem alS_ref {x : List Value} {a : Nat} {ws : List Value} (h : alS x (.ref a :: ws)) : ∃ vs, x = .ref a :: vs ∧ alS vs ws := by
  obtain ⟨v, vs, rfl, h1, h2⟩ := alS_cons h
  cases (h1 : v = .ref a)
  exact ⟨vs, rfl, h2⟩
theorem alS_flt {x : List Value} {b : UInt32} {ws : List Value} (h : alS x (.float b :: ws)) : ∃ a vs, x = .float a :: vs ∧ alike32 a b = true ∧ alS vs ws := by
  obtain ⟨v, vs, rfl, ⟨a, rfl, h1⟩, h2⟩ := alS_cons h
  exact ⟨a, vs, rfl, h1, h2⟩
theorem alS_dbl {x : List Value} {b : UInt64} {ws : List Value} (h : alS x (.double b :: ws)) : ∃ a vs, x = .double a :: vs ∧ alike64 a b = true ∧ alS vs ws := by
  obtain ⟨v, vs, rfl, ⟨a, rfl, h1⟩, h2⟩ := alS_cons h
  exact ⟨a, vs, rfl, h1, h2⟩
theorem alS_app : ∀ {a0 a b0 b : List Value}, alS a0 a → alS b0 b → alS (a0 ++ b0) (a ++ b)
  | [], [], _, _, _, h => h
  | _ :: _, _ :: _, _, _, h1, h2 => ⟨h1.1, alS_app h1.2 h2⟩
  | [], _ :: _, _, _, h1, _ => h1.elim
  | _ :: _, [], _, _, h1, _ => h1.elim
theorem alS_split : ∀ {x a b : List Value}, alS x (a ++ b) → ∃ a0 b0, x = a0 ++ b0 ∧ alS a0 a ∧ alS b0 b
  | x, [], b, h => ⟨[], x, rfl, True.intro, h⟩
  | x, w :: a, b, h => by
    obtain ⟨v, vs, rfl, h1, h2⟩ := alS_cons (ws := a ++ b) h
    obtain ⟨a0, b0, rfl, h3, h4⟩ := alS_split h2
    exact ⟨v :: a0, b0, rfl, ⟨h1, h3⟩, h4⟩
theorem alS_rev : ∀ {x y : List Value}, alS x y → alS x.reverse y.reverse
  | [], [], h => h
  | v :: vs, w :: ws, h => by
    rw [List.reverse_cons, List.reverse_cons]
    exact alS_app (alS_rev h.2) ⟨h.1, True.intro⟩
  | [], _ :: _, h => h.elim
  | _ :: _, [], h => h.elim
theorem alS_len : ∀ {x y : List Value}, alS x y → x.length = y.length
  | [], [], _ => rfl
  | v :: vs, w :: ws, h => by rw [List.length_cons, List.length_cons, alS_len h.2]
  | [], _ :: _, h => h.elim
  | _ :: _, [], h => h.elim
theorem alS_cat : ∀ {x y : List Value}, alS x y → (x.map fun v => v.category) = (y.map fun v => v.category)
  | [], [], _ => rfl
  | v :: vs, w :: ws, h => by rw [List.map_cons, List.map_cons, alV_cat h.1, alS_cat h.2]
  | [], _ :: _, h => h.elim
  | _ :: _, [], h => h.elim
theorem alS_sl : ∀ {x y : List Value}, alS x y → (lg_sl x).length = (lg_sl y).length
  | [], [], _ => rfl
  | v :: vs, w :: ws, h => by
    have e := alS_sl h.2
    have c := alV_cat h.1
    by_cases h2 : w.category = 2
    · simp only [lg_sl, List.flatMap_cons, List.length_append, c, h2] at e ⊢
      simp [e]
    · simp only [lg_sl, List.flatMap_cons, List.length_append, c, h2] at e ⊢
      simp [e]
  | [], _ :: _, h => h.elim
  | _ :: _, [], h => h.elim
def alL : List (Nat × Value) → List (Nat × Value) → Prop
  | [], [] => True
  | v :: vs, w :: ws => (v.1 = w.1 ∧ alV v.2 w.2) ∧ alL vs ws
  | _, _ => False
theorem alL_args : ∀ {x y : List Value} (i : Nat), alS x y → alL (lv_args i x) (lv_args i y)
  | [], [], _, _ => True.intro
  | v :: vs, w :: ws, i, h => ⟨⟨rfl, h.1⟩, by rw [alV_cat h.1]; exact alL_args _ h.2⟩
  | [], _ :: _, _, h => h.elim
  | _ :: _, [], _, h => h.elim
theorem alL_at : ∀ {x y : List (Nat × Value)} (j : Nat) {i : Nat} {w : Value}, alL x y → y[j]? = some (i, w) → ∃ v, x[j]? = some (i, v) ∧ alV v w
  | [], [], _, _, _, _, h => by simp at h
  | v :: vs, w :: ws, 0, i, z, h, e => by
    simp only [List.getElem?_cons_zero, Option.some.injEq] at e
    subst e
    obtain ⟨a, b⟩ := v
    cases (h.1.1 : a = i)
    exact ⟨b, rfl, h.1.2⟩
  | v :: vs, w :: ws, j + 1, i, z, h, e => by
    simp only [List.getElem?_cons_succ] at e ⊢
    exact alL_at j h.2 e
  | [], _ :: _, _, _, _, h, _ => h.elim
  | _ :: _, [], _, _, _, h, _ => h.elim
theorem alL_filter {f : Nat × Value → Bool} (hf : ∀ (i : Nat) (v w : Value), v.category = w.category → f (i, v) = f (i, w)) : ∀ {x y : List (Nat × Value)}, alL x y → alL (x.filter f) (y.filter f)
  | [], [], _ => True.intro
  | (i, v) :: vs, (j, w) :: ws, h => by
    have ih := alL_filter hf h.2
    have e : i = j := h.1.1
    subst e
    have e2 := hf i v w (alV_cat h.1.2)
    by_cases hc : f (i, w) = true
    · rw [List.filter_cons_of_pos hc, List.filter_cons_of_pos (e2.trans hc)]
      exact ⟨⟨rfl, h.1.2⟩, ih⟩
    · rw [List.filter_cons_of_neg hc, List.filter_cons_of_neg (by rw [e2]; exact hc)]
      exact ih
  | [], _ :: _, h => h.elim
  | _ :: _, [], h => h.elim
theorem alL_pick {x y : List (Nat × Value)} (h : alL x y) : ∀ ks : List Nat, alL (lv_pick x ks) (lv_pick y ks)
  | [] => True.intro
  | k :: ks => by
    have ih := alL_pick h ks
    cases hy : y[k]? with
    | none =>
      have hx : x[k]? = none := by
        have : ∀ {x y : List (Nat × Value)}, alL x y → x.length = y.length := by
          intro x
          induction x with
          | nil => intro y h; cases y with
            | nil => rfl
            | cons a b => exact h.elim
          | cons c d ih => intro y h; cases y with
            | nil => exact h.elim
            | cons a b => rw [List.length_cons, List.length_cons, ih h.2]
        rw [List.getElem?_eq_none_iff] at hy ⊢
        rw [this h]
        exact hy
      simp only [lv_pick, List.filterMap_cons, hx, hy]
      exact ih
    | some w =>
      obtain ⟨i, w⟩ := w
      obtain ⟨v, hx, hv⟩ := alL_at k h hy
      simp only [lv_pick, List.filterMap_cons, hx, hy]
      exact ⟨⟨rfl, hv⟩, ih⟩
/-! floats: an operation looks at its operands' data alone -/
theorem fp_nan32 {x : UInt32} (h : isNaN32 x = true) : FP.Core.decode FP.Core.b32 x.toNat = .nan := by
  have h1 := isNaN32_iff.mp h
  have h2 : x.toNat &&& 0x7fffffff = x.toNat % 2 ^ 31 := Nat.and_two_pow_sub_one_eq_mod x.toNat 31
  rw [h2] at h1
  have hE : FP.Core.fieldE FP.Core.b32 x.toNat = 255 := by
    show x.toNat / 2 ^ 23 % 2 ^ 8 = 255
    omega
  have hT : FP.Core.fieldT FP.Core.b32 x.toNat ≠ 0 := by
    show x.toNat % 2 ^ 23 ≠ 0
    have hE' : x.toNat / 2 ^ 23 % 2 ^ 8 = 255 := hE
    omega
  unfold FP.Core.decode
  rw [if_pos (by rw [hE]; rfl), if_neg hT]
theorem fp_al32 {x y : UInt32} (h : alike32 x y = true) : FP.Core.decode FP.Core.b32 x.toNat = FP.Core.decode FP.Core.b32 y.toNat := by
  simp only [alike32, Bool.or_eq_true, Bool.and_eq_true, decide_eq_true_eq] at h
  rcases h with rfl | ⟨h1, h2⟩
  · rfl
  · rw [fp_nan32 h1, fp_nan32 h2]
theorem fp_nan64 {x : UInt64} (h : isNaN64 x = true) : FP.Core.decode FP.Core.b64 x.toNat = .nan := by
  have h1 : (0x7ff0000000000000 : Nat) < x.toNat &&& 0x7fffffffffffffff := isNaN64_iff.mp h
  have h2 : x.toNat &&& 0x7fffffffffffffff = x.toNat % 2 ^ 63 := Nat.and_two_pow_sub_one_eq_mod x.toNat 63
  rw [h2] at h1
  have hE : FP.Core.fieldE FP.Core.b64 x.toNat = 2047 := by
    show x.toNat / 2 ^ 52 % 2 ^ 11 = 2047
    omega
  have hT : FP.Core.fieldT FP.Core.b64 x.toNat ≠ 0 := by
    show x.toNat % 2 ^ 52 ≠ 0
    have hE' : x.toNat / 2 ^ 52 % 2 ^ 11 = 2047 := hE
    omega
  unfold FP.Core.decode
  rw [if_pos (by rw [hE]; rfl), if_neg hT]
theorem fp_al64 {x y : UInt64} (h : alike64 x y = true) : FP.Core.decode FP.Core.b64 x.toNat = FP.Core.decode FP.Core.b64 y.toNat := by
  simp only [alike64, Bool.or_eq_true, Bool.and_eq_true, decide_eq_true_eq] at h
  rcases h with rfl | ⟨h1, h2⟩
  · rfl
  · rw [fp_nan64 h1, fp_nan64 h2]
theorem al32_tr {x y z : UInt32} (h1 : alike32 x y = true) (h2 : alike32 y z = true) : alike32 x z = true := by
  simp only [alike32, Bool.or_eq_true, Bool.and_eq_true, decide_eq_true_eq] at h1 h2 ⊢
  rcases h1 with rfl | ⟨h1, h3⟩
  · exact h2
  · rcases h2 with rfl | ⟨h2, h4⟩
    · exact Or.inr ⟨h1, h3⟩
    · exact Or.inr ⟨h1, h4⟩
theorem al64_tr {x y z : UInt64} (h1 : alike64 x y = true) (h2 : alike64 y z = true) : alike64 x z = true := by
  simp only [alike64, Bool.or_eq_true, Bool.and_eq_true, decide_eq_true_eq] at h1 h2 ⊢
  rcases h1 with rfl | ⟨h1, h3⟩
  · exact h2
  · rcases h2 with rfl | ⟨h2, h4⟩
    · exact Or.inr ⟨h1, h3⟩
    · exact Or.inr ⟨h1, h4⟩
theorem fp_add {a b x y : UInt32} (h1 : alike32 a x = true) (h2 : alike32 b y = true) : FP.fadd a b = FP.fadd x y := by
  show FP.Core.fadd a b = FP.Core.fadd x y
  unfold FP.Core.fadd FP.Core.add
  rw [fp_al32 h1, fp_al32 h2]
theorem fp_sub {a b x y : UInt32} (h1 : alike32 a x = true) (h2 : alike32 b y = true) : FP.fsub a b = FP.fsub x y := by
  show FP.Core.fsub a b = FP.Core.fsub x y
  unfold FP.Core.fsub FP.Core.sub
  rw [fp_al32 h1, fp_al32 h2]
theorem fp_mul {a b x y : UInt32} (h1 : alike32 a x = true) (h2 : alike32 b y = true) : FP.fmul a b = FP.fmul x y := by
  show FP.Core.fmul a b = FP.Core.fmul x y
  unfold FP.Core.fmul FP.Core.mul
  rw [fp_al32 h1, fp_al32 h2]
theorem fp_div {a b x y : UInt32} (h1 : alike32 a x = true) (h2 : alike32 b y = true) : FP.fdiv a b = FP.fdiv x y := by
  show FP.Core.fdiv a b = FP.Core.fdiv x y
  unfold FP.Core.fdiv FP.Core.div
  rw [fp_al32 h1, fp_al32 h2]
theorem fp_cmp {a b x y : UInt32} (h1 : alike32 a x = true) (h2 : alike32 b y = true) : FP.fcmp a b = FP.fcmp x y := by
  show FP.Core.fcmp a b = FP.Core.fcmp x y
  unfold FP.Core.fcmp FP.Core.cmp
  rw [fp_al32 h1, fp_al32 h2]
theorem fp_dcmp {a b x y : UInt64} (h1 : alike64 a x = true) (h2 : alike64 b y = true) : FP.dcmp a b = FP.dcmp x y := by
  show FP.Core.dcmp a b = FP.Core.dcmp x y
  unfold FP.Core.dcmp FP.Core.cmp
  rw [fp_al64 h1, fp_al64 h2]
theorem fp_f2i {a x : UInt32} (h1 : alike32 a x = true) : FP.f2i a = FP.f2i x := by
  show FP.Core.f2i a = FP.Core.f2i x
  unfold FP.Core.f2i
  rw [fp_al32 h1]
theorem fp_f2d {a x : UInt32} (h1 : alike32 a x = true) : alike64 (FP.f2d a) (FP.f2d x) = true := by
  simp only [alike32, Bool.or_eq_true, Bool.and_eq_true, decide_eq_true_eq] at h1
  rcases h1 with rfl | ⟨h1, h2⟩
  · exact alike64_refl _
  · have key : ∀ z : UInt32, isNaN32 z = true → isNaN64 (FP.f2d z) = true := by
      intro z hz
      have e : FP.Core.fIsNaN z = true := by
        show decide (FP.Core.decode FP.Core.b32 z.toNat = .nan) = true
        rw [fp_nan32 hz]
        rfl
      unfold FP.f2d
      rw [if_pos e]
      unfold FP.nanF2D
      exact isNaN64_or_left (isNaN64_or_right (by decide))
    simp only [alike64, key a h1, key x h2, Bool.and_self, Bool.or_true]
def alF (φ0 φ : Fl) : Prop := ∀ k j, alike32 (φ0 k j) (φ k j) = true
theorem alF_up {φ0 φ : Fl} (h : alF φ0 φ) (k j : Nat) {x y : UInt32} (hx : alike32 x y = true) : alF (va_up φ0 k (vf_upd (φ0 k) j x)) (va_up φ k (vf_upd (φ k) j y)) := by
  intro a b
  unfold va_up
  by_cases h1 : a = k
  · subst h1
    rw [if_pos rfl, if_pos rfl]
    unfold vf_upd
    by_cases h2 : b = j
    · rw [if_pos h2, if_pos h2]; exact hx
    · rw [if_neg h2, if_neg h2]; exact h a b
  · rw [if_neg h1, if_neg h1]; exact h a b

/-! words -/
def lw_all : List Cond := lw_tbl.filter goodWord
def isNestW : Cond → Bool
  | .fieldLinkNest .. => true
  | .methodLinkNest .. => true
  | _ => false
def lw_nest : List Cond := lw_tbl.filter isNestW
theorem lw_all_tbl {w : Cond} (h : w ∈ lw_all) : w ∈ lw_tbl := (List.mem_filter.mp h).1
theorem lw_all_good : GoodIn lw_all lw_all := fun _ h => ⟨h, good_of_word (List.mem_filter.mp h).2⟩
theorem lw_in {w : Cond} (i : Nat) (h : lw_tbl[i]? = some w) (hg : goodWord w = true) : w ∈ lw_all := List.mem_filter.mpr ⟨List.mem_of_getElem? h, hg⟩
theorem lw_inN {w : Cond} (i : Nat) (h : lw_tbl[i]? = some w) (hg : isNestW w = true) : w ∈ lw_nest := List.mem_filter.mpr ⟨List.mem_of_getElem? h, hg⟩
def NW (U : State) : Prop := ∀ w ∈ lw_nest, va_Nw w U
theorem NW.warm {s U : State} (hW : s.WarmedH U.vm) (h : NW s) : NW U := by
  intro w hw
  have h1 := h w hw
  have h2 := (List.mem_filter.mp hw).2
  cases w <;> first | exact va_Nw.warmF hW h1 | exact va_Nw.warmM hW h1 | cases h2
theorem NW.same {u U : State} (e : u.vm = U.vm) (h : NW u) : NW U := by
  intro w hw
  have h1 := h w hw
  have h2 := (List.mem_filter.mp hw).2
  cases w <;> first | exact va_Nw.same rfl e h1 | cases h2
end
section
/-! the world: every cell of the class and of the reference, by what it holds -/
def wJ (ad : Nat → Nat) (dA : Nat → ClassId) (σ : Sg) (φ : Fl) : va_W := [
  (ad 0, .inr (10, [.ref (ad 1), .ref (ad 10), .ref (ad 13), .ref (ad 15), .ref (ad 25), .ref (ad 30), .ref (ad 35), .ref (ad 38), .ref (ad 44), .ref (ad 49), .int (σ 0 10)])),
  (ad 1, .inr (7, [.ref (ad 2), .ref (ad 3), .ref (ad 4), .ref (ad 5), .ref (ad 6), .ref (ad 7), .ref (ad 8), .ref (ad 9), .int (σ 1 8)])),
  (ad 2, .inl (dA 0, 80, .inl (σ 2))),
  (ad 3, .inl (dA 0, 80, .inl (σ 3))),
  (ad 4, .inl (dA 0, 80, .inl (σ 4))),
  (ad 5, .inl (dA 0, 8, .inl (σ 5))),
  (ad 6, .inl (dA 0, 8, .inl (σ 6))),
  (ad 7, .inl (dA 0, 8, .inl (σ 7))),
  (ad 8, .inl (dA 0, 8, .inl (σ 8))),
  (ad 9, .inl (dA 1, 8, .inl (σ 9))),
  (ad 10, .inr (0, [.ref (ad 11), .int (σ 10 1), .ref (ad 12), .int (σ 10 3)])),
  (ad 11, .inl (dA 2, 60, .inl (σ 11))),
  (ad 12, .inl (dA 0, 10, .inl (σ 12))),
  (ad 13, .inr (8, [.ref (ad 14)])),
  (ad 14, .inl (dA 0, 4, .inl (σ 14))),
  (ad 15, .inr (9, [.ref (ad 16)])),
  (ad 16, .inl (dA 4, 8, .inr (.inr (.inr (.inr (fun i => if i < 8 then some (ad (17 + i)) else none)))))),
  (ad 17, .inl (dA 0, 112, .inl (σ 17))),
  (ad 18, .inl (dA 0, 112, .inl (σ 18))),
  (ad 19, .inl (dA 0, 112, .inl (σ 19))),
  (ad 20, .inl (dA 0, 112, .inl (σ 20))),
  (ad 21, .inl (dA 0, 112, .inl (σ 21))),
  (ad 22, .inl (dA 0, 112, .inl (σ 22))),
  (ad 23, .inl (dA 0, 112, .inl (σ 23))),
  (ad 24, .inl (dA 0, 112, .inl (σ 24))),
  (ad 25, .inr (4, [.ref (ad 26), .ref (ad 27), .ref (ad 28), .ref (ad 29), .int (σ 25 4), .int (σ 25 5), .int (σ 25 6), .int (σ 25 7)])),
  (ad 26, .inl (dA 0, 8, .inl (σ 26))),
  (ad 27, .inl (dA 0, 8, .inl (σ 27))),
  (ad 28, .inl (dA 0, 8, .inl (σ 28))),
  (ad 29, .inl (dA 1, 8, .inl (σ 29))),
  (ad 30, .inr (1, [.ref (ad 31), .ref (ad 32), .ref (ad 33), .ref (ad 34), .int (σ 30 4), .int (σ 30 5)])),
  (ad 31, .inl (dA 0, 8, .inl (σ 31))),
  (ad 32, .inl (dA 0, 8, .inl (σ 32))),
  (ad 33, .inl (dA 1, 8, .inl (σ 33))),
  (ad 34, .inl (dA 1, 8, .inl (σ 34))),
  (ad 35, .inr (6, [.ref (ad 36), .ref (ad 37)])),
  (ad 36, .inl (dA 3, 8, .inr (.inr (.inl (φ 36))))),
  (ad 37, .inl (dA 3, 8, .inr (.inr (.inl (φ 37))))),
  (ad 38, .inr (3, [.ref (ad 39), .ref (ad 40), .ref (ad 41), .ref (ad 42), .ref (ad 43)])),
  (ad 39, .inl (dA 0, 80, .inl (σ 39))),
  (ad 40, .inl (dA 0, 80, .inl (σ 40))),
  (ad 41, .inl (dA 0, 80, .inl (σ 41))),
  (ad 42, .inl (dA 0, 80, .inl (σ 42))),
  (ad 43, .inl (dA 0, 80, .inl (σ 43))),
  (ad 44, .inr (2, [.ref (ad 45), .ref (ad 46), .ref (ad 47), .ref (ad 48)])),
  (ad 45, .inl (dA 3, 80, .inr (.inr (.inl (φ 45))))),
  (ad 46, .inl (dA 3, 80, .inr (.inr (.inl (φ 46))))),
  (ad 47, .inl (dA 3, 80, .inr (.inr (.inl (φ 47))))),
  (ad 48, .inl (dA 3, 80, .inr (.inr (.inl (φ 48))))),
  (ad 49, .inr (5, [.ref (ad 50), .ref (ad 51), .ref (ad 52)])),
  (ad 50, .inl (dA 0, 80, .inl (σ 50))),
  (ad 51, .inl (dA 1, 80, .inl (σ 51))),
  (ad 52, .inl (dA 0, 80, .inl (σ 52))),
  (ad 53, .inr (11, [.ref (ad 54), .ref (ad 55), .ref (ad 56), .ref (ad 57), .ref (ad 58), .ref (ad 59), .ref (ad 60), .ref (ad 61), .int (σ 53 8), .ref (ad 62), .int (σ 53 10), .ref (ad 63), .ref (ad 64), .int (σ 53 13), .ref (ad 65), .ref (ad 66), .ref (ad 67), .ref (ad 68), .ref (ad 69), .ref (ad 70), .ref (ad 71), .ref (ad 72), .int (σ 53 22), .int (σ 53 23), .ref (ad 73), .ref (ad 74), .ref (ad 75), .ref (ad 76), .ref (ad 77), .ref (ad 78), .ref (ad 79), .ref (ad 80), .ref (ad 81), .ref (ad 82), .ref (ad 83)])),
  (ad 54, .inl (dA 0, 80, .inl (σ 54))),
  (ad 55, .inl (dA 0, 80, .inl (σ 55))),
  (ad 56, .inl (dA 0, 80, .inl (σ 56))),
  (ad 57, .inl (dA 0, 8, .inl (σ 57))),
  (ad 58, .inl (dA 0, 8, .inl (σ 58))),
  (ad 59, .inl (dA 0, 8, .inl (σ 59))),
  (ad 60, .inl (dA 0, 8, .inl (σ 60))),
  (ad 61, .inl (dA 1, 8, .inl (σ 61))),
  (ad 62, .inl (dA 0, 4, .inl (σ 62))),
  (ad 63, .inl (dA 2, 60, .inl (σ 63))),
  (ad 64, .inl (dA 0, 20, .inl (σ 64))),
  (ad 65, .inl (dA 0, 8, .inl (σ 65))),
  (ad 66, .inl (dA 0, 8, .inl (σ 66))),
  (ad 67, .inl (dA 1, 8, .inl (σ 67))),
  (ad 68, .inl (dA 0, 8, .inl (σ 68))),
  (ad 69, .inl (dA 0, 8, .inl (σ 69))),
  (ad 70, .inl (dA 0, 8, .inl (σ 70))),
  (ad 71, .inl (dA 1, 8, .inl (σ 71))),
  (ad 72, .inl (dA 1, 8, .inl (σ 72))),
  (ad 73, .inl (dA 3, 8, .inr (.inr (.inl (φ 73))))),
  (ad 74, .inl (dA 3, 8, .inr (.inr (.inl (φ 74))))),
  (ad 75, .inl (dA 0, 80, .inl (σ 75))),
  (ad 76, .inl (dA 0, 80, .inl (σ 76))),
  (ad 77, .inl (dA 0, 80, .inl (σ 77))),
  (ad 78, .inl (dA 3, 80, .inr (.inr (.inl (φ 78))))),
  (ad 79, .inl (dA 3, 80, .inr (.inr (.inl (φ 79))))),
  (ad 80, .inl (dA 3, 80, .inr (.inr (.inl (φ 80))))),
  (ad 81, .inl (dA 3, 80, .inr (.inr (.inl (φ 81))))),
  (ad 82, .inl (dA 0, 8, .inl (σ 82))),
  (ad 83, .inl (dA 1, 80, .inl (σ 83)))]
def tyA (dA : Nat → ClassId) : List (ClassId × FieldType) := [(dA 0, .int), (dA 1, .boolean), (dA 2, .char), (dA 3, .float), (dA 4, .array .int)]
theorem at_0 (ad : Nat → Nat) (dA : Nat → ClassId) (σ : Sg) (φ : Fl) : (wJ ad dA σ φ)[0]? = some (ad 0, .inr (10, [.ref (ad 1), .ref (ad 10), .ref (ad 13), .ref (ad 15), .ref (ad 25), .ref (ad 30), .ref (ad 35), .ref (ad 38), .ref (ad 44), .ref (ad 49), .int (σ 0 10)])) := rfl
theorem at_1 (ad : Nat → Nat) (dA : Nat → ClassId) (σ : Sg) (φ : Fl) : (wJ ad dA σ φ)[1]? = some (ad 1, .inr (7, [.ref (ad 2), .ref (ad 3), .ref (ad 4), .ref (ad 5), .ref (ad 6), .ref (ad 7), .ref (ad 8), .ref (ad 9), .int (σ 1 8)])) := rfl
theorem at_2 (ad : Nat → Nat) (dA : Nat → ClassId) (σ : Sg) (φ : Fl) : (wJ ad dA σ φ)[2]? = some (ad 2, .inl (dA 0, 80, .inl (σ 2))) := rfl
theorem at_3 (ad : Nat → Nat) (dA : Nat → ClassId) (σ : Sg) (φ : Fl) : (wJ ad dA σ φ)[3]? = some (ad 3, .inl (dA 0, 80, .inl (σ 3))) := rfl
theorem at_4 (ad : Nat → Nat) (dA : Nat → ClassId) (σ : Sg) (φ : Fl) : (wJ ad dA σ φ)[4]? = some (ad 4, .inl (dA 0, 80, .inl (σ 4))) := rfl
theorem at_5 (ad : Nat → Nat) (dA : Nat → ClassId) (σ : Sg) (φ : Fl) : (wJ ad dA σ φ)[5]? = some (ad 5, .inl (dA 0, 8, .inl (σ 5))) := rfl
theorem at_6 (ad : Nat → Nat) (dA : Nat → ClassId) (σ : Sg) (φ : Fl) : (wJ ad dA σ φ)[6]? = some (ad 6, .inl (dA 0, 8, .inl (σ 6))) := rfl
theorem at_7 (ad : Nat → Nat) (dA : Nat → ClassId) (σ : Sg) (φ : Fl) : (wJ ad dA σ φ)[7]? = some (ad 7, .inl (dA 0, 8, .inl (σ 7))) := rfl
theorem at_8 (ad : Nat → Nat) (dA : Nat → ClassId) (σ : Sg) (φ : Fl) : (wJ ad dA σ φ)[8]? = some (ad 8, .inl (dA 0, 8, .inl (σ 8))) := rfl
theorem at_9 (ad : Nat → Nat) (dA : Nat → ClassId) (σ : Sg) (φ : Fl) : (wJ ad dA σ φ)[9]? = some (ad 9, .inl (dA 1, 8, .inl (σ 9))) := rfl
theorem at_10 (ad : Nat → Nat) (dA : Nat → ClassId) (σ : Sg) (φ : Fl) : (wJ ad dA σ φ)[10]? = some (ad 10, .inr (0, [.ref (ad 11), .int (σ 10 1), .ref (ad 12), .int (σ 10 3)])) := rfl
theorem at_11 (ad : Nat → Nat) (dA : Nat → ClassId) (σ : Sg) (φ : Fl) : (wJ ad dA σ φ)[11]? = some (ad 11, .inl (dA 2, 60, .inl (σ 11))) := rfl
theorem at_12 (ad : Nat → Nat) (dA : Nat → ClassId) (σ : Sg) (φ : Fl) : (wJ ad dA σ φ)[12]? = some (ad 12, .inl (dA 0, 10, .inl (σ 12))) := rfl
theorem at_13 (ad : Nat → Nat) (dA : Nat → ClassId) (σ : Sg) (φ : Fl) : (wJ ad dA σ φ)[13]? = some (ad 13, .inr (8, [.ref (ad 14)])) := rfl
theorem at_14 (ad : Nat → Nat) (dA : Nat → ClassId) (σ : Sg) (φ : Fl) : (wJ ad dA σ φ)[14]? = some (ad 14, .inl (dA 0, 4, .inl (σ 14))) := rfl
theorem at_15 (ad : Nat → Nat) (dA : Nat → ClassId) (σ : Sg) (φ : Fl) : (wJ ad dA σ φ)[15]? = some (ad 15, .inr (9, [.ref (ad 16)])) := rfl
theorem at_16 (ad : Nat → Nat) (dA : Nat → ClassId) (σ : Sg) (φ : Fl) : (wJ ad dA σ φ)[16]? = some (ad 16, .inl (dA 4, 8, .inr (.inr (.inr (.inr (fun i => if i < 8 then some (ad (17 + i)) else none)))))) := rfl
theorem at_17 (ad : Nat → Nat) (dA : Nat → ClassId) (σ : Sg) (φ : Fl) : (wJ ad dA σ φ)[17]? = some (ad 17, .inl (dA 0, 112, .inl (σ 17))) := rfl
theorem at_18 (ad : Nat → Nat) (dA : Nat → ClassId) (σ : Sg) (φ : Fl) : (wJ ad dA σ φ)[18]? = some (ad 18, .inl (dA 0, 112, .inl (σ 18))) := rfl
theorem at_19 (ad : Nat → Nat) (dA : Nat → ClassId) (σ : Sg) (φ : Fl) : (wJ ad dA σ φ)[19]? = some (ad 19, .inl (dA 0, 112, .inl (σ 19))) := rfl
theorem at_20 (ad : Nat → Nat) (dA : Nat → ClassId) (σ : Sg) (φ : Fl) : (wJ ad dA σ φ)[20]? = some (ad 20, .inl (dA 0, 112, .inl (σ 20))) := rfl
theorem at_21 (ad : Nat → Nat) (dA : Nat → ClassId) (σ : Sg) (φ : Fl) : (wJ ad dA σ φ)[21]? = some (ad 21, .inl (dA 0, 112, .inl (σ 21))) := rfl
theorem at_22 (ad : Nat → Nat) (dA : Nat → ClassId) (σ : Sg) (φ : Fl) : (wJ ad dA σ φ)[22]? = some (ad 22, .inl (dA 0, 112, .inl (σ 22))) := rfl
theorem at_23 (ad : Nat → Nat) (dA : Nat → ClassId) (σ : Sg) (φ : Fl) : (wJ ad dA σ φ)[23]? = some (ad 23, .inl (dA 0, 112, .inl (σ 23))) := rfl
theorem at_24 (ad : Nat → Nat) (dA : Nat → ClassId) (σ : Sg) (φ : Fl) : (wJ ad dA σ φ)[24]? = some (ad 24, .inl (dA 0, 112, .inl (σ 24))) := rfl
theorem at_25 (ad : Nat → Nat) (dA : Nat → ClassId) (σ : Sg) (φ : Fl) : (wJ ad dA σ φ)[25]? = some (ad 25, .inr (4, [.ref (ad 26), .ref (ad 27), .ref (ad 28), .ref (ad 29), .int (σ 25 4), .int (σ 25 5), .int (σ 25 6), .int (σ 25 7)])) := rfl
theorem at_26 (ad : Nat → Nat) (dA : Nat → ClassId) (σ : Sg) (φ : Fl) : (wJ ad dA σ φ)[26]? = some (ad 26, .inl (dA 0, 8, .inl (σ 26))) := rfl
theorem at_27 (ad : Nat → Nat) (dA : Nat → ClassId) (σ : Sg) (φ : Fl) : (wJ ad dA σ φ)[27]? = some (ad 27, .inl (dA 0, 8, .inl (σ 27))) := rfl
theorem at_28 (ad : Nat → Nat) (dA : Nat → ClassId) (σ : Sg) (φ : Fl) : (wJ ad dA σ φ)[28]? = some (ad 28, .inl (dA 0, 8, .inl (σ 28))) := rfl
theorem at_29 (ad : Nat → Nat) (dA : Nat → ClassId) (σ : Sg) (φ : Fl) : (wJ ad dA σ φ)[29]? = some (ad 29, .inl (dA 1, 8, .inl (σ 29))) := rfl
theorem at_30 (ad : Nat → Nat) (dA : Nat → ClassId) (σ : Sg) (φ : Fl) : (wJ ad dA σ φ)[30]? = some (ad 30, .inr (1, [.ref (ad 31), .ref (ad 32), .ref (ad 33), .ref (ad 34), .int (σ 30 4), .int (σ 30 5)])) := rfl
theorem at_31 (ad : Nat → Nat) (dA : Nat → ClassId) (σ : Sg) (φ : Fl) : (wJ ad dA σ φ)[31]? = some (ad 31, .inl (dA 0, 8, .inl (σ 31))) := rfl
theorem at_32 (ad : Nat → Nat) (dA : Nat → ClassId) (σ : Sg) (φ : Fl) : (wJ ad dA σ φ)[32]? = some (ad 32, .inl (dA 0, 8, .inl (σ 32))) := rfl
theorem at_33 (ad : Nat → Nat) (dA : Nat → ClassId) (σ : Sg) (φ : Fl) : (wJ ad dA σ φ)[33]? = some (ad 33, .inl (dA 1, 8, .inl (σ 33))) := rfl
theorem at_34 (ad : Nat → Nat) (dA : Nat → ClassId) (σ : Sg) (φ : Fl) : (wJ ad dA σ φ)[34]? = some (ad 34, .inl (dA 1, 8, .inl (σ 34))) := rfl
theorem at_35 (ad : Nat → Nat) (dA : Nat → ClassId) (σ : Sg) (φ : Fl) : (wJ ad dA σ φ)[35]? = some (ad 35, .inr (6, [.ref (ad 36), .ref (ad 37)])) := rfl
theorem at_36 (ad : Nat → Nat) (dA : Nat → ClassId) (σ : Sg) (φ : Fl) : (wJ ad dA σ φ)[36]? = some (ad 36, .inl (dA 3, 8, .inr (.inr (.inl (φ 36))))) := rfl
theorem at_37 (ad : Nat → Nat) (dA : Nat → ClassId) (σ : Sg) (φ : Fl) : (wJ ad dA σ φ)[37]? = some (ad 37, .inl (dA 3, 8, .inr (.inr (.inl (φ 37))))) := rfl
theorem at_38 (ad : Nat → Nat) (dA : Nat → ClassId) (σ : Sg) (φ : Fl) : (wJ ad dA σ φ)[38]? = some (ad 38, .inr (3, [.ref (ad 39), .ref (ad 40), .ref (ad 41), .ref (ad 42), .ref (ad 43)])) := rfl
theorem at_39 (ad : Nat → Nat) (dA : Nat → ClassId) (σ : Sg) (φ : Fl) : (wJ ad dA σ φ)[39]? = some (ad 39, .inl (dA 0, 80, .inl (σ 39))) := rfl
theorem at_40 (ad : Nat → Nat) (dA : Nat → ClassId) (σ : Sg) (φ : Fl) : (wJ ad dA σ φ)[40]? = some (ad 40, .inl (dA 0, 80, .inl (σ 40))) := rfl
theorem at_41 (ad : Nat → Nat) (dA : Nat → ClassId) (σ : Sg) (φ : Fl) : (wJ ad dA σ φ)[41]? = some (ad 41, .inl (dA 0, 80, .inl (σ 41))) := rfl
theorem at_42 (ad : Nat → Nat) (dA : Nat → ClassId) (σ : Sg) (φ : Fl) : (wJ ad dA σ φ)[42]? = some (ad 42, .inl (dA 0, 80, .inl (σ 42))) := rfl
theorem at_43 (ad : Nat → Nat) (dA : Nat → ClassId) (σ : Sg) (φ : Fl) : (wJ ad dA σ φ)[43]? = some (ad 43, .inl (dA 0, 80, .inl (σ 43))) := rfl
theorem at_44 (ad : Nat → Nat) (dA : Nat → ClassId) (σ : Sg) (φ : Fl) : (wJ ad dA σ φ)[44]? = some (ad 44, .inr (2, [.ref (ad 45), .ref (ad 46), .ref (ad 47), .ref (ad 48)])) := rfl
theorem at_45 (ad : Nat → Nat) (dA : Nat → ClassId) (σ : Sg) (φ : Fl) : (wJ ad dA σ φ)[45]? = some (ad 45, .inl (dA 3, 80, .inr (.inr (.inl (φ 45))))) := rfl
theorem at_46 (ad : Nat → Nat) (dA : Nat → ClassId) (σ : Sg) (φ : Fl) : (wJ ad dA σ φ)[46]? = some (ad 46, .inl (dA 3, 80, .inr (.inr (.inl (φ 46))))) := rfl
theorem at_47 (ad : Nat → Nat) (dA : Nat → ClassId) (σ : Sg) (φ : Fl) : (wJ ad dA σ φ)[47]? = some (ad 47, .inl (dA 3, 80, .inr (.inr (.inl (φ 47))))) := rfl
theorem at_48 (ad : Nat → Nat) (dA : Nat → ClassId) (σ : Sg) (φ : Fl) : (wJ ad dA σ φ)[48]? = some (ad 48, .inl (dA 3, 80, .inr (.inr (.inl (φ 48))))) := rfl
theorem at_49 (ad : Nat → Nat) (dA : Nat → ClassId) (σ : Sg) (φ : Fl) : (wJ ad dA σ φ)[49]? = some (ad 49, .inr (5, [.ref (ad 50), .ref (ad 51), .ref (ad 52)])) := rfl
theorem at_50 (ad : Nat → Nat) (dA : Nat → ClassId) (σ : Sg) (φ : Fl) : (wJ ad dA σ φ)[50]? = some (ad 50, .inl (dA 0, 80, .inl (σ 50))) := rfl
theorem at_51 (ad : Nat → Nat) (dA : Nat → ClassId) (σ : Sg) (φ : Fl) : (wJ ad dA σ φ)[51]? = some (ad 51, .inl (dA 1, 80, .inl (σ 51))) := rfl
theorem at_52 (ad : Nat → Nat) (dA : Nat → ClassId) (σ : Sg) (φ : Fl) : (wJ ad dA σ φ)[52]? = some (ad 52, .inl (dA 0, 80, .inl (σ 52))) := rfl
theorem at_53 (ad : Nat → Nat) (dA : Nat → ClassId) (σ : Sg) (φ : Fl) : (wJ ad dA σ φ)[53]? = some (ad 53, .inr (11, [.ref (ad 54), .ref (ad 55), .ref (ad 56), .ref (ad 57), .ref (ad 58), .ref (ad 59), .ref (ad 60), .ref (ad 61), .int (σ 53 8), .ref (ad 62), .int (σ 53 10), .ref (ad 63), .ref (ad 64), .int (σ 53 13), .ref (ad 65), .ref (ad 66), .ref (ad 67), .ref (ad 68), .ref (ad 69), .ref (ad 70), .ref (ad 71), .ref (ad 72), .int (σ 53 22), .int (σ 53 23), .ref (ad 73), .ref (ad 74), .ref (ad 75), .ref (ad 76), .ref (ad 77), .ref (ad 78), .ref (ad 79), .ref (ad 80), .ref (ad 81), .ref (ad 82), .ref (ad 83)])) := rfl
theorem at_54 (ad : Nat → Nat) (dA : Nat → ClassId) (σ : Sg) (φ : Fl) : (wJ ad dA σ φ)[54]? = some (ad 54, .inl (dA 0, 80, .inl (σ 54))) := rfl
theorem at_55 (ad : Nat → Nat) (dA : Nat → ClassId) (σ : Sg) (φ : Fl) : (wJ ad dA σ φ)[55]? = some (ad 55, .inl (dA 0, 80, .inl (σ 55))) := rfl
theorem at_56 (ad : Nat → Nat) (dA : Nat → ClassId) (σ : Sg) (φ : Fl) : (wJ ad dA σ φ)[56]? = some (ad 56, .inl (dA 0, 80, .inl (σ 56))) := rfl
theorem at_57 (ad : Nat → Nat) (dA : Nat → ClassId) (σ : Sg) (φ : Fl) : (wJ ad dA σ φ)[57]? = some (ad 57, .inl (dA 0, 8, .inl (σ 57))) := rfl
theorem at_58 (ad : Nat → Nat) (dA : Nat → ClassId) (σ : Sg) (φ : Fl) : (wJ ad dA σ φ)[58]? = some (ad 58, .inl (dA 0, 8, .inl (σ 58))) := rfl
theorem at_59 (ad : Nat → Nat) (dA : Nat → ClassId) (σ : Sg) (φ : Fl) : (wJ ad dA σ φ)[59]? = some (ad 59, .inl (dA 0, 8, .inl (σ 59))) := rfl
theorem at_60 (ad : Nat → Nat) (dA : Nat → ClassId) (σ : Sg) (φ : Fl) : (wJ ad dA σ φ)[60]? = some (ad 60, .inl (dA 0, 8, .inl (σ 60))) := rfl
theorem at_61 (ad : Nat → Nat) (dA : Nat → ClassId) (σ : Sg) (φ : Fl) : (wJ ad dA σ φ)[61]? = some (ad 61, .inl (dA 1, 8, .inl (σ 61))) := rfl
theorem at_62 (ad : Nat → Nat) (dA : Nat → ClassId) (σ : Sg) (φ : Fl) : (wJ ad dA σ φ)[62]? = some (ad 62, .inl (dA 0, 4, .inl (σ 62))) := rfl
theorem at_63 (ad : Nat → Nat) (dA : Nat → ClassId) (σ : Sg) (φ : Fl) : (wJ ad dA σ φ)[63]? = some (ad 63, .inl (dA 2, 60, .inl (σ 63))) := rfl
theorem at_64 (ad : Nat → Nat) (dA : Nat → ClassId) (σ : Sg) (φ : Fl) : (wJ ad dA σ φ)[64]? = some (ad 64, .inl (dA 0, 20, .inl (σ 64))) := rfl
theorem at_65 (ad : Nat → Nat) (dA : Nat → ClassId) (σ : Sg) (φ : Fl) : (wJ ad dA σ φ)[65]? = some (ad 65, .inl (dA 0, 8, .inl (σ 65))) := rfl
theorem at_66 (ad : Nat → Nat) (dA : Nat → ClassId) (σ : Sg) (φ : Fl) : (wJ ad dA σ φ)[66]? = some (ad 66, .inl (dA 0, 8, .inl (σ 66))) := rfl
theorem at_67 (ad : Nat → Nat) (dA : Nat → ClassId) (σ : Sg) (φ : Fl) : (wJ ad dA σ φ)[67]? = some (ad 67, .inl (dA 1, 8, .inl (σ 67))) := rfl
theorem at_68 (ad : Nat → Nat) (dA : Nat → ClassId) (σ : Sg) (φ : Fl) : (wJ ad dA σ φ)[68]? = some (ad 68, .inl (dA 0, 8, .inl (σ 68))) := rfl
theorem at_69 (ad : Nat → Nat) (dA : Nat → ClassId) (σ : Sg) (φ : Fl) : (wJ ad dA σ φ)[69]? = some (ad 69, .inl (dA 0, 8, .inl (σ 69))) := rfl
theorem at_70 (ad : Nat → Nat) (dA : Nat → ClassId) (σ : Sg) (φ : Fl) : (wJ ad dA σ φ)[70]? = some (ad 70, .inl (dA 0, 8, .inl (σ 70))) := rfl
theorem at_71 (ad : Nat → Nat) (dA : Nat → ClassId) (σ : Sg) (φ : Fl) : (wJ ad dA σ φ)[71]? = some (ad 71, .inl (dA 1, 8, .inl (σ 71))) := rfl
theorem at_72 (ad : Nat → Nat) (dA : Nat → ClassId) (σ : Sg) (φ : Fl) : (wJ ad dA σ φ)[72]? = some (ad 72, .inl (dA 1, 8, .inl (σ 72))) := rfl
theorem at_73 (ad : Nat → Nat) (dA : Nat → ClassId) (σ : Sg) (φ : Fl) : (wJ ad dA σ φ)[73]? = some (ad 73, .inl (dA 3, 8, .inr (.inr (.inl (φ 73))))) := rfl
theorem at_74 (ad : Nat → Nat) (dA : Nat → ClassId) (σ : Sg) (φ : Fl) : (wJ ad dA σ φ)[74]? = some (ad 74, .inl (dA 3, 8, .inr (.inr (.inl (φ 74))))) := rfl
theorem at_75 (ad : Nat → Nat) (dA : Nat → ClassId) (σ : Sg) (φ : Fl) : (wJ ad dA σ φ)[75]? = some (ad 75, .inl (dA 0, 80, .inl (σ 75))) := rfl
theorem at_76 (ad : Nat → Nat) (dA : Nat → ClassId) (σ : Sg) (φ : Fl) : (wJ ad dA σ φ)[76]? = some (ad 76, .inl (dA 0, 80, .inl (σ 76))) := rfl
theorem at_77 (ad : Nat → Nat) (dA : Nat → ClassId) (σ : Sg) (φ : Fl) : (wJ ad dA σ φ)[77]? = some (ad 77, .inl (dA 0, 80, .inl (σ 77))) := rfl
theorem at_78 (ad : Nat → Nat) (dA : Nat → ClassId) (σ : Sg) (φ : Fl) : (wJ ad dA σ φ)[78]? = some (ad 78, .inl (dA 3, 80, .inr (.inr (.inl (φ 78))))) := rfl
theorem at_79 (ad : Nat → Nat) (dA : Nat → ClassId) (σ : Sg) (φ : Fl) : (wJ ad dA σ φ)[79]? = some (ad 79, .inl (dA 3, 80, .inr (.inr (.inl (φ 79))))) := rfl
theorem at_80 (ad : Nat → Nat) (dA : Nat → ClassId) (σ : Sg) (φ : Fl) : (wJ ad dA σ φ)[80]? = some (ad 80, .inl (dA 3, 80, .inr (.inr (.inl (φ 80))))) := rfl
theorem at_81 (ad : Nat → Nat) (dA : Nat → ClassId) (σ : Sg) (φ : Fl) : (wJ ad dA σ φ)[81]? = some (ad 81, .inl (dA 3, 80, .inr (.inr (.inl (φ 81))))) := rfl
theorem at_82 (ad : Nat → Nat) (dA : Nat → ClassId) (σ : Sg) (φ : Fl) : (wJ ad dA σ φ)[82]? = some (ad 82, .inl (dA 0, 8, .inl (σ 82))) := rfl
theorem at_83 (ad : Nat → Nat) (dA : Nat → ClassId) (σ : Sg) (φ : Fl) : (wJ ad dA σ φ)[83]? = some (ad 83, .inl (dA 1, 80, .inl (σ 83))) := rfl
theorem set_0_10 (ad : Nat → Nat) (dA : Nat → ClassId) (σ : Sg) (φ : Fl) (v : Int32) : (wJ ad dA σ φ).set 0 (ad 0, .inr (10, ([.ref (ad 1), .ref (ad 10), .ref (ad 13), .ref (ad 15), .ref (ad 25), .ref (ad 30), .ref (ad 35), .ref (ad 38), .ref (ad 44), .ref (ad 49), .int (σ 0 10)] : List Value).set 10 (.int v))) = wJ ad dA (va_up σ 0 (upd (σ 0) 10 v)) φ := rfl
theorem set_1_8 (ad : Nat → Nat) (dA : Nat → ClassId) (σ : Sg) (φ : Fl) (v : Int32) : (wJ ad dA σ φ).set 1 (ad 1, .inr (7, ([.ref (ad 2), .ref (ad 3), .ref (ad 4), .ref (ad 5), .ref (ad 6), .ref (ad 7), .ref (ad 8), .ref (ad 9), .int (σ 1 8)] : List Value).set 8 (.int v))) = wJ ad dA (va_up σ 1 (upd (σ 1) 8 v)) φ := rfl
theorem set_2 (ad : Nat → Nat) (dA : Nat → ClassId) (σ : Sg) (φ : Fl) (f : Nat → Int32) : (wJ ad dA σ φ).set 2 (ad 2, .inl (dA 0, 80, .inl f)) = wJ ad dA (va_up σ 2 f) φ := rfl
theorem set_3 (ad : Nat → Nat) (dA : Nat → ClassId) (σ : Sg) (φ : Fl) (f : Nat → Int32) : (wJ ad dA σ φ).set 3 (ad 3, .inl (dA 0, 80, .inl f)) = wJ ad dA (va_up σ 3 f) φ := rfl
theorem set_4 (ad : Nat → Nat) (dA : Nat → ClassId) (σ : Sg) (φ : Fl) (f : Nat → Int32) : (wJ ad dA σ φ).set 4 (ad 4, .inl (dA 0, 80, .inl f)) = wJ ad dA (va_up σ 4 f) φ := rfl
theorem set_5 (ad : Nat → Nat) (dA : Nat → ClassId) (σ : Sg) (φ : Fl) (f : Nat → Int32) : (wJ ad dA σ φ).set 5 (ad 5, .inl (dA 0, 8, .inl f)) = wJ ad dA (va_up σ 5 f) φ := rfl
theorem set_6 (ad : Nat → Nat) (dA : Nat → ClassId) (σ : Sg) (φ : Fl) (f : Nat → Int32) : (wJ ad dA σ φ).set 6 (ad 6, .inl (dA 0, 8, .inl f)) = wJ ad dA (va_up σ 6 f) φ := rfl
theorem set_7 (ad : Nat → Nat) (dA : Nat → ClassId) (σ : Sg) (φ : Fl) (f : Nat → Int32) : (wJ ad dA σ φ).set 7 (ad 7, .inl (dA 0, 8, .inl f)) = wJ ad dA (va_up σ 7 f) φ := rfl
theorem set_8 (ad : Nat → Nat) (dA : Nat → ClassId) (σ : Sg) (φ : Fl) (f : Nat → Int32) : (wJ ad dA σ φ).set 8 (ad 8, .inl (dA 0, 8, .inl f)) = wJ ad dA (va_up σ 8 f) φ := rfl
theorem set_9 (ad : Nat → Nat) (dA : Nat → ClassId) (σ : Sg) (φ : Fl) (f : Nat → Int32) : (wJ ad dA σ φ).set 9 (ad 9, .inl (dA 1, 8, .inl f)) = wJ ad dA (va_up σ 9 f) φ := rfl
theorem set_10_1 (ad : Nat → Nat) (dA : Nat → ClassId) (σ : Sg) (φ : Fl) (v : Int32) : (wJ ad dA σ φ).set 10 (ad 10, .inr (0, ([.ref (ad 11), .int (σ 10 1), .ref (ad 12), .int (σ 10 3)] : List Value).set 1 (.int v))) = wJ ad dA (va_up σ 10 (upd (σ 10) 1 v)) φ := rfl
theorem set_10_3 (ad : Nat → Nat) (dA : Nat → ClassId) (σ : Sg) (φ : Fl) (v : Int32) : (wJ ad dA σ φ).set 10 (ad 10, .inr (0, ([.ref (ad 11), .int (σ 10 1), .ref (ad 12), .int (σ 10 3)] : List Value).set 3 (.int v))) = wJ ad dA (va_up σ 10 (upd (σ 10) 3 v)) φ := rfl
theorem set_11 (ad : Nat → Nat) (dA : Nat → ClassId) (σ : Sg) (φ : Fl) (f : Nat → Int32) : (wJ ad dA σ φ).set 11 (ad 11, .inl (dA 2, 60, .inl f)) = wJ ad dA (va_up σ 11 f) φ := rfl
theorem set_12 (ad : Nat → Nat) (dA : Nat → ClassId) (σ : Sg) (φ : Fl) (f : Nat → Int32) : (wJ ad dA σ φ).set 12 (ad 12, .inl (dA 0, 10, .inl f)) = wJ ad dA (va_up σ 12 f) φ := rfl
theorem set_14 (ad : Nat → Nat) (dA : Nat → ClassId) (σ : Sg) (φ : Fl) (f : Nat → Int32) : (wJ ad dA σ φ).set 14 (ad 14, .inl (dA 0, 4, .inl f)) = wJ ad dA (va_up σ 14 f) φ := rfl
theorem set_17 (ad : Nat → Nat) (dA : Nat → ClassId) (σ : Sg) (φ : Fl) (f : Nat → Int32) : (wJ ad dA σ φ).set 17 (ad 17, .inl (dA 0, 112, .inl f)) = wJ ad dA (va_up σ 17 f) φ := rfl
theorem set_18 (ad : Nat → Nat) (dA : Nat → ClassId) (σ : Sg) (φ : Fl) (f : Nat → Int32) : (wJ ad dA σ φ).set 18 (ad 18, .inl (dA 0, 112, .inl f)) = wJ ad dA (va_up σ 18 f) φ := rfl
theorem set_19 (ad : Nat → Nat) (dA : Nat → ClassId) (σ : Sg) (φ : Fl) (f : Nat → Int32) : (wJ ad dA σ φ).set 19 (ad 19, .inl (dA 0, 112, .inl f)) = wJ ad dA (va_up σ 19 f) φ := rfl
theorem set_20 (ad : Nat → Nat) (dA : Nat → ClassId) (σ : Sg) (φ : Fl) (f : Nat → Int32) : (wJ ad dA σ φ).set 20 (ad 20, .inl (dA 0, 112, .inl f)) = wJ ad dA (va_up σ 20 f) φ := rfl
theorem set_21 (ad : Nat → Nat) (dA : Nat → ClassId) (σ : Sg) (φ : Fl) (f : Nat → Int32) : (wJ ad dA σ φ).set 21 (ad 21, .inl (dA 0, 112, .inl f)) = wJ ad dA (va_up σ 21 f) φ := rfl
theorem set_22 (ad : Nat → Nat) (dA : Nat → ClassId) (σ : Sg) (φ : Fl) (f : Nat → Int32) : (wJ ad dA σ φ).set 22 (ad 22, .inl (dA 0, 112, .inl f)) = wJ ad dA (va_up σ 22 f) φ := rfl
theorem set_23 (ad : Nat → Nat) (dA : Nat → ClassId) (σ : Sg) (φ : Fl) (f : Nat → Int32) : (wJ ad dA σ φ).set 23 (ad 23, .inl (dA 0, 112, .inl f)) = wJ ad dA (va_up σ 23 f) φ := rfl
theorem set_24 (ad : Nat → Nat) (dA : Nat → ClassId) (σ : Sg) (φ : Fl) (f : Nat → Int32) : (wJ ad dA σ φ).set 24 (ad 24, .inl (dA 0, 112, .inl f)) = wJ ad dA (va_up σ 24 f) φ := rfl
theorem set_25_4 (ad : Nat → Nat) (dA : Nat → ClassId) (σ : Sg) (φ : Fl) (v : Int32) : (wJ ad dA σ φ).set 25 (ad 25, .inr (4, ([.ref (ad 26), .ref (ad 27), .ref (ad 28), .ref (ad 29), .int (σ 25 4), .int (σ 25 5), .int (σ 25 6), .int (σ 25 7)] : List Value).set 4 (.int v))) = wJ ad dA (va_up σ 25 (upd (σ 25) 4 v)) φ := rfl
theorem set_25_5 (ad : Nat → Nat) (dA : Nat → ClassId) (σ : Sg) (φ : Fl) (v : Int32) : (wJ ad dA σ φ).set 25 (ad 25, .inr (4, ([.ref (ad 26), .ref (ad 27), .ref (ad 28), .ref (ad 29), .int (σ 25 4), .int (σ 25 5), .int (σ 25 6), .int (σ 25 7)] : List Value).set 5 (.int v))) = wJ ad dA (va_up σ 25 (upd (σ 25) 5 v)) φ := rfl
theorem set_25_6 (ad : Nat → Nat) (dA : Nat → ClassId) (σ : Sg) (φ : Fl) (v : Int32) : (wJ ad dA σ φ).set 25 (ad 25, .inr (4, ([.ref (ad 26), .ref (ad 27), .ref (ad 28), .ref (ad 29), .int (σ 25 4), .int (σ 25 5), .int (σ 25 6), .int (σ 25 7)] : List Value).set 6 (.int v))) = wJ ad dA (va_up σ 25 (upd (σ 25) 6 v)) φ := rfl
theorem set_25_7 (ad : Nat → Nat) (dA : Nat → ClassId) (σ : Sg) (φ : Fl) (v : Int32) : (wJ ad dA σ φ).set 25 (ad 25, .inr (4, ([.ref (ad 26), .ref (ad 27), .ref (ad 28), .ref (ad 29), .int (σ 25 4), .int (σ 25 5), .int (σ 25 6), .int (σ 25 7)] : List Value).set 7 (.int v))) = wJ ad dA (va_up σ 25 (upd (σ 25) 7 v)) φ := rfl
theorem set_26 (ad : Nat → Nat) (dA : Nat → ClassId) (σ : Sg) (φ : Fl) (f : Nat → Int32) : (wJ ad dA σ φ).set 26 (ad 26, .inl (dA 0, 8, .inl f)) = wJ ad dA (va_up σ 26 f) φ := rfl
theorem set_27 (ad : Nat → Nat) (dA : Nat → ClassId) (σ : Sg) (φ : Fl) (f : Nat → Int32) : (wJ ad dA σ φ).set 27 (ad 27, .inl (dA 0, 8, .inl f)) = wJ ad dA (va_up σ 27 f) φ := rfl
theorem set_28 (ad : Nat → Nat) (dA : Nat → ClassId) (σ : Sg) (φ : Fl) (f : Nat → Int32) : (wJ ad dA σ φ).set 28 (ad 28, .inl (dA 0, 8, .inl f)) = wJ ad dA (va_up σ 28 f) φ := rfl
theorem set_29 (ad : Nat → Nat) (dA : Nat → ClassId) (σ : Sg) (φ : Fl) (f : Nat → Int32) : (wJ ad dA σ φ).set 29 (ad 29, .inl (dA 1, 8, .inl f)) = wJ ad dA (va_up σ 29 f) φ := rfl
theorem set_30_4 (ad : Nat → Nat) (dA : Nat → ClassId) (σ : Sg) (φ : Fl) (v : Int32) : (wJ ad dA σ φ).set 30 (ad 30, .inr (1, ([.ref (ad 31), .ref (ad 32), .ref (ad 33), .ref (ad 34), .int (σ 30 4), .int (σ 30 5)] : List Value).set 4 (.int v))) = wJ ad dA (va_up σ 30 (upd (σ 30) 4 v)) φ := rfl
theorem set_30_5 (ad : Nat → Nat) (dA : Nat → ClassId) (σ : Sg) (φ : Fl) (v : Int32) : (wJ ad dA σ φ).set 30 (ad 30, .inr (1, ([.ref (ad 31), .ref (ad 32), .ref (ad 33), .ref (ad 34), .int (σ 30 4), .int (σ 30 5)] : List Value).set 5 (.int v))) = wJ ad dA (va_up σ 30 (upd (σ 30) 5 v)) φ := rfl
theorem set_31 (ad : Nat → Nat) (dA : Nat → ClassId) (σ : Sg) (φ : Fl) (f : Nat → Int32) : (wJ ad dA σ φ).set 31 (ad 31, .inl (dA 0, 8, .inl f)) = wJ ad dA (va_up σ 31 f) φ := rfl
theorem set_32 (ad : Nat → Nat) (dA : Nat → ClassId) (σ : Sg) (φ : Fl) (f : Nat → Int32) : (wJ ad dA σ φ).set 32 (ad 32, .inl (dA 0, 8, .inl f)) = wJ ad dA (va_up σ 32 f) φ := rfl
theorem set_33 (ad : Nat → Nat) (dA : Nat → ClassId) (σ : Sg) (φ : Fl) (f : Nat → Int32) : (wJ ad dA σ φ).set 33 (ad 33, .inl (dA 1, 8, .inl f)) = wJ ad dA (va_up σ 33 f) φ := rfl
theorem set_34 (ad : Nat → Nat) (dA : Nat → ClassId) (σ : Sg) (φ : Fl) (f : Nat → Int32) : (wJ ad dA σ φ).set 34 (ad 34, .inl (dA 1, 8, .inl f)) = wJ ad dA (va_up σ 34 f) φ := rfl
theorem set_36 (ad : Nat → Nat) (dA : Nat → ClassId) (σ : Sg) (φ : Fl) (f : Nat → UInt32) : (wJ ad dA σ φ).set 36 (ad 36, .inl (dA 3, 8, .inr (.inr (.inl f)))) = wJ ad dA σ (va_up φ 36 f) := rfl
theorem set_37 (ad : Nat → Nat) (dA : Nat → ClassId) (σ : Sg) (φ : Fl) (f : Nat → UInt32) : (wJ ad dA σ φ).set 37 (ad 37, .inl (dA 3, 8, .inr (.inr (.inl f)))) = wJ ad dA σ (va_up φ 37 f) := rfl
theorem set_39 (ad : Nat → Nat) (dA : Nat → ClassId) (σ : Sg) (φ : Fl) (f : Nat → Int32) : (wJ ad dA σ φ).set 39 (ad 39, .inl (dA 0, 80, .inl f)) = wJ ad dA (va_up σ 39 f) φ := rfl
theorem set_40 (ad : Nat → Nat) (dA : Nat → ClassId) (σ : Sg) (φ : Fl) (f : Nat → Int32) : (wJ ad dA σ φ).set 40 (ad 40, .inl (dA 0, 80, .inl f)) = wJ ad dA (va_up σ 40 f) φ := rfl
theorem set_41 (ad : Nat → Nat) (dA : Nat → ClassId) (σ : Sg) (φ : Fl) (f : Nat → Int32) : (wJ ad dA σ φ).set 41 (ad 41, .inl (dA 0, 80, .inl f)) = wJ ad dA (va_up σ 41 f) φ := rfl
theorem set_42 (ad : Nat → Nat) (dA : Nat → ClassId) (σ : Sg) (φ : Fl) (f : Nat → Int32) : (wJ ad dA σ φ).set 42 (ad 42, .inl (dA 0, 80, .inl f)) = wJ ad dA (va_up σ 42 f) φ := rfl
theorem set_43 (ad : Nat → Nat) (dA : Nat → ClassId) (σ : Sg) (φ : Fl) (f : Nat → Int32) : (wJ ad dA σ φ).set 43 (ad 43, .inl (dA 0, 80, .inl f)) = wJ ad dA (va_up σ 43 f) φ := rfl
theorem set_45 (ad : Nat → Nat) (dA : Nat → ClassId) (σ : Sg) (φ : Fl) (f : Nat → UInt32) : (wJ ad dA σ φ).set 45 (ad 45, .inl (dA 3, 80, .inr (.inr (.inl f)))) = wJ ad dA σ (va_up φ 45 f) := rfl
theorem set_46 (ad : Nat → Nat) (dA : Nat → ClassId) (σ : Sg) (φ : Fl) (f : Nat → UInt32) : (wJ ad dA σ φ).set 46 (ad 46, .inl (dA 3, 80, .inr (.inr (.inl f)))) = wJ ad dA σ (va_up φ 46 f) := rfl
theorem set_47 (ad : Nat → Nat) (dA : Nat → ClassId) (σ : Sg) (φ : Fl) (f : Nat → UInt32) : (wJ ad dA σ φ).set 47 (ad 47, .inl (dA 3, 80, .inr (.inr (.inl f)))) = wJ ad dA σ (va_up φ 47 f) := rfl
theorem set_48 (ad : Nat → Nat) (dA : Nat → ClassId) (σ : Sg) (φ : Fl) (f : Nat → UInt32) : (wJ ad dA σ φ).set 48 (ad 48, .inl (dA 3, 80, .inr (.inr (.inl f)))) = wJ ad dA σ (va_up φ 48 f) := rfl
theorem set_50 (ad : Nat → Nat) (dA : Nat → ClassId) (σ : Sg) (φ : Fl) (f : Nat → Int32) : (wJ ad dA σ φ).set 50 (ad 50, .inl (dA 0, 80, .inl f)) = wJ ad dA (va_up σ 50 f) φ := rfl
theorem set_51 (ad : Nat → Nat) (dA : Nat → ClassId) (σ : Sg) (φ : Fl) (f : Nat → Int32) : (wJ ad dA σ φ).set 51 (ad 51, .inl (dA 1, 80, .inl f)) = wJ ad dA (va_up σ 51 f) φ := rfl
theorem set_52 (ad : Nat → Nat) (dA : Nat → ClassId) (σ : Sg) (φ : Fl) (f : Nat → Int32) : (wJ ad dA σ φ).set 52 (ad 52, .inl (dA 0, 80, .inl f)) = wJ ad dA (va_up σ 52 f) φ := rfl
theorem set_53_8 (ad : Nat → Nat) (dA : Nat → ClassId) (σ : Sg) (φ : Fl) (v : Int32) : (wJ ad dA σ φ).set 53 (ad 53, .inr (11, ([.ref (ad 54), .ref (ad 55), .ref (ad 56), .ref (ad 57), .ref (ad 58), .ref (ad 59), .ref (ad 60), .ref (ad 61), .int (σ 53 8), .ref (ad 62), .int (σ 53 10), .ref (ad 63), .ref (ad 64), .int (σ 53 13), .ref (ad 65), .ref (ad 66), .ref (ad 67), .ref (ad 68), .ref (ad 69), .ref (ad 70), .ref (ad 71), .ref (ad 72), .int (σ 53 22), .int (σ 53 23), .ref (ad 73), .ref (ad 74), .ref (ad 75), .ref (ad 76), .ref (ad 77), .ref (ad 78), .ref (ad 79), .ref (ad 80), .ref (ad 81), .ref (ad 82), .ref (ad 83)] : List Value).set 8 (.int v))) = wJ ad dA (va_up σ 53 (upd (σ 53) 8 v)) φ := rfl
theorem set_53_10 (ad : Nat → Nat) (dA : Nat → ClassId) (σ : Sg) (φ : Fl) (v : Int32) : (wJ ad dA σ φ).set 53 (ad 53, .inr (11, ([.ref (ad 54), .ref (ad 55), .ref (ad 56), .ref (ad 57), .ref (ad 58), .ref (ad 59), .ref (ad 60), .ref (ad 61), .int (σ 53 8), .ref (ad 62), .int (σ 53 10), .ref (ad 63), .ref (ad 64), .int (σ 53 13), .ref (ad 65), .ref (ad 66), .ref (ad 67), .ref (ad 68), .ref (ad 69), .ref (ad 70), .ref (ad 71), .ref (ad 72), .int (σ 53 22), .int (σ 53 23), .ref (ad 73), .ref (ad 74), .ref (ad 75), .ref (ad 76), .ref (ad 77), .ref (ad 78), .ref (ad 79), .ref (ad 80), .ref (ad 81), .ref (ad 82), .ref (ad 83)] : List Value).set 10 (.int v))) = wJ ad dA (va_up σ 53 (upd (σ 53) 10 v)) φ := rfl
theorem set_53_13 (ad : Nat → Nat) (dA : Nat → ClassId) (σ : Sg) (φ : Fl) (v : Int32) : (wJ ad dA σ φ).set 53 (ad 53, .inr (11, ([.ref (ad 54), .ref (ad 55), .ref (ad 56), .ref (ad 57), .ref (ad 58), .ref (ad 59), .ref (ad 60), .ref (ad 61), .int (σ 53 8), .ref (ad 62), .int (σ 53 10), .ref (ad 63), .ref (ad 64), .int (σ 53 13), .ref (ad 65), .ref (ad 66), .ref (ad 67), .ref (ad 68), .ref (ad 69), .ref (ad 70), .ref (ad 71), .ref (ad 72), .int (σ 53 22), .int (σ 53 23), .ref (ad 73), .ref (ad 74), .ref (ad 75), .ref (ad 76), .ref (ad 77), .ref (ad 78), .ref (ad 79), .ref (ad 80), .ref (ad 81), .ref (ad 82), .ref (ad 83)] : List Value).set 13 (.int v))) = wJ ad dA (va_up σ 53 (upd (σ 53) 13 v)) φ := rfl
theorem set_53_22 (ad : Nat → Nat) (dA : Nat → ClassId) (σ : Sg) (φ : Fl) (v : Int32) : (wJ ad dA σ φ).set 53 (ad 53, .inr (11, ([.ref (ad 54), .ref (ad 55), .ref (ad 56), .ref (ad 57), .ref (ad 58), .ref (ad 59), .ref (ad 60), .ref (ad 61), .int (σ 53 8), .ref (ad 62), .int (σ 53 10), .ref (ad 63), .ref (ad 64), .int (σ 53 13), .ref (ad 65), .ref (ad 66), .ref (ad 67), .ref (ad 68), .ref (ad 69), .ref (ad 70), .ref (ad 71), .ref (ad 72), .int (σ 53 22), .int (σ 53 23), .ref (ad 73), .ref (ad 74), .ref (ad 75), .ref (ad 76), .ref (ad 77), .ref (ad 78), .ref (ad 79), .ref (ad 80), .ref (ad 81), .ref (ad 82), .ref (ad 83)] : List Value).set 22 (.int v))) = wJ ad dA (va_up σ 53 (upd (σ 53) 22 v)) φ := rfl
theorem set_53_23 (ad : Nat → Nat) (dA : Nat → ClassId) (σ : Sg) (φ : Fl) (v : Int32) : (wJ ad dA σ φ).set 53 (ad 53, .inr (11, ([.ref (ad 54), .ref (ad 55), .ref (ad 56), .ref (ad 57), .ref (ad 58), .ref (ad 59), .ref (ad 60), .ref (ad 61), .int (σ 53 8), .ref (ad 62), .int (σ 53 10), .ref (ad 63), .ref (ad 64), .int (σ 53 13), .ref (ad 65), .ref (ad 66), .ref (ad 67), .ref (ad 68), .ref (ad 69), .ref (ad 70), .ref (ad 71), .ref (ad 72), .int (σ 53 22), .int (σ 53 23), .ref (ad 73), .ref (ad 74), .ref (ad 75), .ref (ad 76), .ref (ad 77), .ref (ad 78), .ref (ad 79), .ref (ad 80), .ref (ad 81), .ref (ad 82), .ref (ad 83)] : List Value).set 23 (.int v))) = wJ ad dA (va_up σ 53 (upd (σ 53) 23 v)) φ := rfl
theorem set_54 (ad : Nat → Nat) (dA : Nat → ClassId) (σ : Sg) (φ : Fl) (f : Nat → Int32) : (wJ ad dA σ φ).set 54 (ad 54, .inl (dA 0, 80, .inl f)) = wJ ad dA (va_up σ 54 f) φ := rfl
theorem set_55 (ad : Nat → Nat) (dA : Nat → ClassId) (σ : Sg) (φ : Fl) (f : Nat → Int32) : (wJ ad dA σ φ).set 55 (ad 55, .inl (dA 0, 80, .inl f)) = wJ ad dA (va_up σ 55 f) φ := rfl
theorem set_56 (ad : Nat → Nat) (dA : Nat → ClassId) (σ : Sg) (φ : Fl) (f : Nat → Int32) : (wJ ad dA σ φ).set 56 (ad 56, .inl (dA 0, 80, .inl f)) = wJ ad dA (va_up σ 56 f) φ := rfl
theorem set_57 (ad : Nat → Nat) (dA : Nat → ClassId) (σ : Sg) (φ : Fl) (f : Nat → Int32) : (wJ ad dA σ φ).set 57 (ad 57, .inl (dA 0, 8, .inl f)) = wJ ad dA (va_up σ 57 f) φ := rfl
theorem set_58 (ad : Nat → Nat) (dA : Nat → ClassId) (σ : Sg) (φ : Fl) (f : Nat → Int32) : (wJ ad dA σ φ).set 58 (ad 58, .inl (dA 0, 8, .inl f)) = wJ ad dA (va_up σ 58 f) φ := rfl
theorem set_59 (ad : Nat → Nat) (dA : Nat → ClassId) (σ : Sg) (φ : Fl) (f : Nat → Int32) : (wJ ad dA σ φ).set 59 (ad 59, .inl (dA 0, 8, .inl f)) = wJ ad dA (va_up σ 59 f) φ := rfl
theorem set_60 (ad : Nat → Nat) (dA : Nat → ClassId) (σ : Sg) (φ : Fl) (f : Nat → Int32) : (wJ ad dA σ φ).set 60 (ad 60, .inl (dA 0, 8, .inl f)) = wJ ad dA (va_up σ 60 f) φ := rfl
theorem set_61 (ad : Nat → Nat) (dA : Nat → ClassId) (σ : Sg) (φ : Fl) (f : Nat → Int32) : (wJ ad dA σ φ).set 61 (ad 61, .inl (dA 1, 8, .inl f)) = wJ ad dA (va_up σ 61 f) φ := rfl
theorem set_62 (ad : Nat → Nat) (dA : Nat → ClassId) (σ : Sg) (φ : Fl) (f : Nat → Int32) : (wJ ad dA σ φ).set 62 (ad 62, .inl (dA 0, 4, .inl f)) = wJ ad dA (va_up σ 62 f) φ := rfl
theorem set_63 (ad : Nat → Nat) (dA : Nat → ClassId) (σ : Sg) (φ : Fl) (f : Nat → Int32) : (wJ ad dA σ φ).set 63 (ad 63, .inl (dA 2, 60, .inl f)) = wJ ad dA (va_up σ 63 f) φ := rfl
theorem set_64 (ad : Nat → Nat) (dA : Nat → ClassId) (σ : Sg) (φ : Fl) (f : Nat → Int32) : (wJ ad dA σ φ).set 64 (ad 64, .inl (dA 0, 20, .inl f)) = wJ ad dA (va_up σ 64 f) φ := rfl
theorem set_65 (ad : Nat → Nat) (dA : Nat → ClassId) (σ : Sg) (φ : Fl) (f : Nat → Int32) : (wJ ad dA σ φ).set 65 (ad 65, .inl (dA 0, 8, .inl f)) = wJ ad dA (va_up σ 65 f) φ := rfl
theorem set_66 (ad : Nat → Nat) (dA : Nat → ClassId) (σ : Sg) (φ : Fl) (f : Nat → Int32) : (wJ ad dA σ φ).set 66 (ad 66, .inl (dA 0, 8, .inl f)) = wJ ad dA (va_up σ 66 f) φ := rfl
theorem set_67 (ad : Nat → Nat) (dA : Nat → ClassId) (σ : Sg) (φ : Fl) (f : Nat → Int32) : (wJ ad dA σ φ).set 67 (ad 67, .inl (dA 1, 8, .inl f)) = wJ ad dA (va_up σ 67 f) φ := rfl
theorem set_68 (ad : Nat → Nat) (dA : Nat → ClassId) (σ : Sg) (φ : Fl) (f : Nat → Int32) : (wJ ad dA σ φ).set 68 (ad 68, .inl (dA 0, 8, .inl f)) = wJ ad dA (va_up σ 68 f) φ := rfl
theorem set_69 (ad : Nat → Nat) (dA : Nat → ClassId) (σ : Sg) (φ : Fl) (f : Nat → Int32) : (wJ ad dA σ φ).set 69 (ad 69, .inl (dA 0, 8, .inl f)) = wJ ad dA (va_up σ 69 f) φ := rfl
theorem set_70 (ad : Nat → Nat) (dA : Nat → ClassId) (σ : Sg) (φ : Fl) (f : Nat → Int32) : (wJ ad dA σ φ).set 70 (ad 70, .inl (dA 0, 8, .inl f)) = wJ ad dA (va_up σ 70 f) φ := rfl
theorem set_71 (ad : Nat → Nat) (dA : Nat → ClassId) (σ : Sg) (φ : Fl) (f : Nat → Int32) : (wJ ad dA σ φ).set 71 (ad 71, .inl (dA 1, 8, .inl f)) = wJ ad dA (va_up σ 71 f) φ := rfl
theorem set_72 (ad : Nat → Nat) (dA : Nat → ClassId) (σ : Sg) (φ : Fl) (f : Nat → Int32) : (wJ ad dA σ φ).set 72 (ad 72, .inl (dA 1, 8, .inl f)) = wJ ad dA (va_up σ 72 f) φ := rfl
theorem set_73 (ad : Nat → Nat) (dA : Nat → ClassId) (σ : Sg) (φ : Fl) (f : Nat → UInt32) : (wJ ad dA σ φ).set 73 (ad 73, .inl (dA 3, 8, .inr (.inr (.inl f)))) = wJ ad dA σ (va_up φ 73 f) := rfl
theorem set_74 (ad : Nat → Nat) (dA : Nat → ClassId) (σ : Sg) (φ : Fl) (f : Nat → UInt32) : (wJ ad dA σ φ).set 74 (ad 74, .inl (dA 3, 8, .inr (.inr (.inl f)))) = wJ ad dA σ (va_up φ 74 f) := rfl
theorem set_75 (ad : Nat → Nat) (dA : Nat → ClassId) (σ : Sg) (φ : Fl) (f : Nat → Int32) : (wJ ad dA σ φ).set 75 (ad 75, .inl (dA 0, 80, .inl f)) = wJ ad dA (va_up σ 75 f) φ := rfl
theorem set_76 (ad : Nat → Nat) (dA : Nat → ClassId) (σ : Sg) (φ : Fl) (f : Nat → Int32) : (wJ ad dA σ φ).set 76 (ad 76, .inl (dA 0, 80, .inl f)) = wJ ad dA (va_up σ 76 f) φ := rfl
theorem set_77 (ad : Nat → Nat) (dA : Nat → ClassId) (σ : Sg) (φ : Fl) (f : Nat → Int32) : (wJ ad dA σ φ).set 77 (ad 77, .inl (dA 0, 80, .inl f)) = wJ ad dA (va_up σ 77 f) φ := rfl
theorem set_78 (ad : Nat → Nat) (dA : Nat → ClassId) (σ : Sg) (φ : Fl) (f : Nat → UInt32) : (wJ ad dA σ φ).set 78 (ad 78, .inl (dA 3, 80, .inr (.inr (.inl f)))) = wJ ad dA σ (va_up φ 78 f) := rfl
theorem set_79 (ad : Nat → Nat) (dA : Nat → ClassId) (σ : Sg) (φ : Fl) (f : Nat → UInt32) : (wJ ad dA σ φ).set 79 (ad 79, .inl (dA 3, 80, .inr (.inr (.inl f)))) = wJ ad dA σ (va_up φ 79 f) := rfl
theorem set_80 (ad : Nat → Nat) (dA : Nat → ClassId) (σ : Sg) (φ : Fl) (f : Nat → UInt32) : (wJ ad dA σ φ).set 80 (ad 80, .inl (dA 3, 80, .inr (.inr (.inl f)))) = wJ ad dA σ (va_up φ 80 f) := rfl
theorem set_81 (ad : Nat → Nat) (dA : Nat → ClassId) (σ : Sg) (φ : Fl) (f : Nat → UInt32) : (wJ ad dA σ φ).set 81 (ad 81, .inl (dA 3, 80, .inr (.inr (.inl f)))) = wJ ad dA σ (va_up φ 81 f) := rfl
theorem set_82 (ad : Nat → Nat) (dA : Nat → ClassId) (σ : Sg) (φ : Fl) (f : Nat → Int32) : (wJ ad dA σ φ).set 82 (ad 82, .inl (dA 0, 8, .inl f)) = wJ ad dA (va_up σ 82 f) φ := rfl
theorem set_83 (ad : Nat → Nat) (dA : Nat → ClassId) (σ : Sg) (φ : Fl) (f : Nat → Int32) : (wJ ad dA σ φ).set 83 (ad 83, .inl (dA 1, 80, .inl f)) = wJ ad dA (va_up σ 83 f) φ := rfl
theorem at_row (ad : Nat → Nat) (dA : Nat → ClassId) (σ : Sg) (φ : Fl) (i : Nat) (h : i < 8) : (wJ ad dA σ φ)[17 + i]? = some (ad (17 + i), .inl (dA 0, 112, .inl (σ (17 + i)))) := by
  rcases (show i = 0 ∨ i = 1 ∨ i = 2 ∨ i = 3 ∨ i = 4 ∨ i = 5 ∨ i = 6 ∨ i = 7 by omega) with rfl | rfl | rfl | rfl | rfl | rfl | rfl | rfl <;> rfl
theorem set_row (ad : Nat → Nat) (dA : Nat → ClassId) (σ : Sg) (φ : Fl) (i : Nat) (h : i < 8) (f : Nat → Int32) : (wJ ad dA σ φ).set (17 + i) (ad (17 + i), .inl (dA 0, 112, .inl f)) = wJ ad dA (va_up σ (17 + i) f) φ := by
  rcases (show i = 0 ∨ i = 1 ∨ i = 2 ∨ i = 3 ∨ i = 4 ∨ i = 5 ∨ i = 6 ∨ i = 7 by omega) with rfl | rfl | rfl | rfl | rfl | rfl | rfl | rfl <;> rfl
theorem iu_0 : ∀ w ∈ u_ws RX0 TX0 4, w ∈ lw_all := by decide +kernel
theorem iu_1 : ∀ w ∈ u_ws RX1 TX1 6, w ∈ lw_all := by decide +kernel
theorem iu_2 : ∀ w ∈ u_ws RX2 TX2 4, w ∈ lw_all := by decide +kernel
theorem iu_3 : ∀ w ∈ u_ws RX3 TX3 5, w ∈ lw_all := by decide +kernel
theorem iu_4 : ∀ w ∈ u_ws RX4 TX4 8, w ∈ lw_all := by decide +kernel
theorem iu_5 : ∀ w ∈ u_ws RX5 TX5 3, w ∈ lw_all := by decide +kernel
theorem iu_6 : ∀ w ∈ u_ws RX6 TX6 2, w ∈ lw_all := by decide +kernel
theorem iu_7 : ∀ w ∈ u_ws RX7 TX7 9, w ∈ lw_all := by decide +kernel
theorem iu_8 : ∀ w ∈ u_ws RX8 TX8 1, w ∈ lw_all := by decide +kernel
theorem iu_9 : ∀ w ∈ u_ws RX9 TX9 1, w ∈ lw_all := by decide +kernel
theorem iu_10 : ∀ w ∈ u_ws RX10 TX10 11, w ∈ lw_all := by decide +kernel
theorem iu_11 : ∀ w ∈ u_ws RX11 TX11 35, w ∈ lw_all := by decide +kernel
/-! static arrays that nobody writes -/
def sa_0 (j : Nat) : Int32 := ([0, 1, 0, -1] : List Int32).getD j 0
def sa_1 (j : Nat) : Int32 := ([1, 0, -1, 0] : List Int32).getD j 0
def sa_2 (j : Nat) : Int32 := ([119, 121, 99, 103, 109, 114, 98, 107] : List Int32).getD j 0
def sa_3 (j : Nat) : Int32 := ([180, 160, 140, 120, 80, 60, 30, 10] : List Int32).getD j 0
def sa_4 (j : Nat) : Int32 := ([0, -50, 20, -40, 40, -20, 60, 0] : List Int32).getD j 0
def sa_5 (j : Nat) : Int32 := ([0, 10, -50, -40, 40, 60, -10, 0] : List Int32).getD j 0
def sa_6 (j : Nat) : Int32 := ([1, 0, 0, 0] : List Int32).getD j 0
def sa_7 (j : Nat) : Int32 := ([40, 100, 3, 2] : List Int32).getD j 0
def STz (tt : Nat → Nat) (A : Nat → Prop) (U : State) (H : Heap) : Prop := (va_Z "CompositeDecoder" "SINE" "[I" (.ref (tt 0)) A U H ∧ va_T .int (tt 0) 4 (fun j => .int (sa_0 j)) A U H) ∧ (va_Z "CompositeDecoder" "COSINE" "[I" (.ref (tt 1)) A U H ∧ va_T .int (tt 1) 4 (fun j => .int (sa_1 j)) A U H) ∧ (va_Z "CompositeDecoder$BarText" "LETTERS" "[C" (.ref (tt 2)) A U H ∧ va_T .char (tt 2) 8 (fun j => .int (sa_2 j)) A U H) ∧ (va_Z "CompositeDecoder$BarText" "BAR_LUMAS" "[I" (.ref (tt 3)) A U H ∧ va_T .int (tt 3) 8 (fun j => .int (sa_3 j)) A U H) ∧ (va_Z "CompositeDecoder$BarText" "BAR_US" "[I" (.ref (tt 4)) A U H ∧ va_T .int (tt 4) 8 (fun j => .int (sa_4 j)) A U H) ∧ (va_Z "CompositeDecoder$BarText" "BAR_VS" "[I" (.ref (tt 5)) A U H ∧ va_T .int (tt 5) 8 (fun j => .int (sa_5 j)) A U H) ∧ (va_Z "CompositeDecoder$Settings" "LOWEST" "[I" (.ref (tt 6)) A U H ∧ va_T .int (tt 6) 4 (fun j => .int (sa_6 j)) A U H) ∧ (va_Z "CompositeDecoder$Settings" "HIGHEST" "[I" (.ref (tt 7)) A U H ∧ va_T .int (tt 7) 4 (fun j => .int (sa_7 j)) A U H)
theorem STz.kept {tt : Nat → Nat} {A : Nat → Prop} {U : State} {H H1 : Heap} (h : STz tt A U H) (hq : ∀ a : Nat, a < H.size → ¬ A a → H1[a]? = H[a]?) : STz tt A U H1 := by
  obtain ⟨⟨a0, b0⟩, ⟨a1, b1⟩, ⟨a2, b2⟩, ⟨a3, b3⟩, ⟨a4, b4⟩, ⟨a5, b5⟩, ⟨a6, b6⟩, ⟨a7, b7⟩⟩ := h
  exact ⟨⟨a0.kept hq, b0.kept hq⟩, ⟨a1.kept hq, b1.kept hq⟩, ⟨a2.kept hq, b2.kept hq⟩, ⟨a3.kept hq, b3.kept hq⟩, ⟨a4.kept hq, b4.kept hq⟩, ⟨a5.kept hq, b5.kept hq⟩, ⟨a6.kept hq, b6.kept hq⟩, ⟨a7.kept hq, b7.kept hq⟩⟩
theorem STz.moved {tt : Nat → Nat} {A : Nat → Prop} {u U : State} {H : Heap} (hvm : u.vm.Alike U.vm) (h : STz tt A u H) : STz tt A U H := by
  obtain ⟨⟨a0, b0⟩, ⟨a1, b1⟩, ⟨a2, b2⟩, ⟨a3, b3⟩, ⟨a4, b4⟩, ⟨a5, b5⟩, ⟨a6, b6⟩, ⟨a7, b7⟩⟩ := h
  exact ⟨⟨a0.moved hvm, b0.moved hvm⟩, ⟨a1.moved hvm, b1.moved hvm⟩, ⟨a2.moved hvm, b2.moved hvm⟩, ⟨a3.moved hvm, b3.moved hvm⟩, ⟨a4.moved hvm, b4.moved hvm⟩, ⟨a5.moved hvm, b5.moved hvm⟩, ⟨a6.moved hvm, b6.moved hvm⟩, ⟨a7.moved hvm, b7.moved hvm⟩⟩
/-! the contract's start and end -/
def EnvU (D : va_G) (ad : Nat → Nat) (dA : Nat → ClassId) (z0 : Nat) (tt : Nat → Nat) (U : State) : Prop :=
  va_K D vwCl (tyA dA) U ∧ NW U ∧ STz tt (fun q => z0 ≤ q) U U.heap ∧ z0 ≤ U.heap.size ∧ ∀ (σ : Sg) (φ : Fl), va_D (fun q => z0 ≤ q) (wJ ad dA σ φ)
def Wd (D : va_G) (ad : Nat → Nat) (dA : Nat → ClassId) (σ : Sg) (φ : Fl) (H : Heap) : Prop := ∃ φ0 : Fl, alF φ0 φ ∧ va_P D vwCl (wJ ad dA σ φ0) H
def PcG (D : va_G) (ad : Nat → Nat) (dA : Nat → ClassId) (z0 : Nat) (tt : Nat → Nat) (As : List Value) (σ : Sg) (φ : Fl) : Array Value → State → Prop := fun v U => (∃ As0 : List Value, v = As0.toArray ∧ alS As0 As) ∧ EnvU D ad dA z0 tt U ∧ Wd D ad dA σ φ U.heap
def alO (v w : Option Value) : Prop := alS v.toList w.toList
def QcG (D : va_G) (ad : Nat → Nat) (dA : Nat → ClassId) (z0 : Nat) (P : Option Value → Sg → Fl → Prop) : Array Value → State → Outcome → State → Prop := fun _ st oc t => (∃ (rv0 rv : Option Value) (σ : Sg) (φ : Fl), oc = .returned rv0 ∧ alO rv0 rv ∧ P rv σ φ ∧ Wd D ad dA σ φ t.heap) ∧ va_F (fun q => z0 ≤ q) st t
def MC (l : Launch) (D : va_G) (ad : Nat → Nat) (dA : Nat → ClassId) (z0 : Nat) (tt : Nat → Nat) (y : MethodName) (ws : List Cond) (rm : Room) (As : List Value) (σ : Sg) (φ : Fl) (P : Option Value → Sg → Fl → Prop) : Prop :=
  MetD lw_cs l y ws rm (PcG D ad dA z0 tt As σ φ) (QcG D ad dA z0 P) 0 0 (fun q => z0 ≤ q)
/-- a method that answers one number and leaves one world -/
abbrev Fn (rv : Option Value) (σ : Sg) (φ : Fl) : Option Value → Sg → Fl → Prop := fun r s f => r = rv ∧ s = σ ∧ f = φ
theorem EnvU.calls {D : va_G} {ad : Nat → Nat} {dA : Nat → ClassId} {z0 : Nat} {tt : Nat → Nat} {s U : State} {H : Heap} {locs : List Loc} (h : EnvU D ad dA z0 tt s) (hS : va_S (fun q => z0 ≤ q) s.heap H locs) (hU : U.heap = H) (hW : s.WarmedH U.vm) : EnvU D ad dA z0 tt U := by
  obtain ⟨hK, hN, hT, hz, hD⟩ := h
  refine ⟨va_K.moved hW.alike hK, hN.warm hW, (STz.moved hW.alike (hT.kept fun a h1 h2 => ?_)), ?_, hD⟩
  · rw [hU]; exact hS.2.1 a h1 h2
  · rw [hU]; exact Nat.le_trans hz hS.1
theorem PcG.blind {D : va_G} {ad : Nat → Nat} {dA : Nat → ClassId} {z0 : Nat} {tt : Nat → Nat} {As : List Value} {σ : Sg} {φ : Fl} : FrameBlind (PcG D ad dA z0 tt As σ φ) := by
  intro a U g mk h
  obtain ⟨h1, ⟨hK, hN, hT, hz, hD⟩, hw⟩ := h
  refine ⟨h1, ⟨va_K.moved (u := U) (U := U.calling g mk a) (Vm.Alike.refl U.vm) hK, NW.same (u := U) (U := U.calling g mk a) rfl hN, ?_, hz, hD⟩, hw⟩
  exact STz.moved (u := U) (U := U.calling g mk a) (Vm.Alike.refl U.vm) hT
/-! the judgement -/
def GK (p : Program) (l : Launch) (e : Env) (R : Room) (s : State) (m : MethodId) (args : Array Value) (below : List Frame) (meth : Method) (c : Code) (Q : State → Prop) (nL z0 : Nat) (D : va_G) (ad : Nat → Nat) (dA : Nat → ClassId) (cells slots : Nat) : KT := fun σ φ pc lv st =>
  ∀ (d : Drawn) (H : Heap) (locs : List Loc) (ls : Array Slot) (l0 : List (Nat × Value)) (st0 : List Value), s.drawn.sameBut d lw_cs → Wd D ad dA σ φ H → va_S (fun q => z0 ≤ q) s.heap H locs → lv_has ls nL l0 → alL l0 lv → alS st0 st →
    W p l e R (s.setDrawn d) m args below meth c H locs cells slots Q (F0 m pc ls st0)
/-- what stands of the machine: K is its judgement -/
def Cx (K : KT) (l : Launch) (D : va_G) (ad : Nat → Nat) (dA : Nat → ClassId) (z0 : Nat) (tt : Nat → Nat) (cc : ByteArray) (own : String) (nL : Nat) (R : Room) : Prop :=
  ∃ (p : Program) (e : Env) (s : State) (m : MethodId) (args : Array Value) (below : List Frame) (meth : Method) (c : Code) (Q : State → Prop) (cells slots : Nat),
    K = GK p l e R s m args below meth c Q nL z0 D ad dA cells slots ∧ p.tables.exec = Jvm.exec ∧ c.code = cc ∧ c.maxLocals = nL ∧ s.vm.findClass own = some m.cls ∧ (∀ w ∈ lw_all, w.before args s = true) ∧ EnvU D ad dA z0 tt s ∧ cells ≤ R.cells ∧ slots ≤ R.slots
theorem lv_narrowZ {x : Int32} (h : x = 0 ∨ x = 1) : narrow .boolean (.int x) = .int x ∧ fits .boolean (.int x) = true ∧ vp_nar .boolean x = x := by
  rcases h with rfl | rfl <;> exact ⟨rfl, rfl, rfl⟩
/-- a method of ours, from the walk of its body -/
theorem mk_MC {l : Launch} {D : va_G} {ad : Nat → Nat} {dA : Nat → ClassId} {z0 : Nat} {tt : Nat → Nat} {y : MethodName} {rm : Room} {As : List Value} {σ : Sg} {φ : Fl} {P : Option Value → Sg → Fl → Prop} {cc : ByteArray} {nL : Nat} {ret : Option FieldType} (hy : plainName y.cls = true) (hlen : (lg_sl As).length ≤ nL)
    (body : ∀ K : KT, Cx K l D ad dA z0 tt cc y.cls nL rm →
      (∀ (v : Int32) (ty : FieldType) (σ' : Sg) (φ' : Fl) (pc : Nat) (lv : List (Nat × Value)), ret = some ty → decode cc pc = .ok (.ireturn, 1) → narrow ty (.int v) = .int v → P (some (.int v)) σ' φ' → K σ' φ' pc lv [.int v]) →
      (∀ (v : UInt32) (σ' : Sg) (φ' : Fl) (pc : Nat) (lv : List (Nat × Value)), ret = some .float → decode cc pc = .ok (.freturn, 1) → P (some (.float v)) σ' φ' → K σ' φ' pc lv [.float v]) →
      (∀ (σ' : Sg) (φ' : Fl) (pc : Nat) (lv : List (Nat × Value)), ret = none → decode cc pc = .ok (.return_, 1) → P none σ' φ' → K σ' φ' pc lv []) → K σ φ 0 (lv_args 0 As) []) :
    MC l D ad dA z0 tt y (Cond.code y cc nL ret :: lw_all) rm As σ φ P := by
  refine MetD.ofW (cc := cc) (maxL := nL) (ret := ret) hy rfl ?_
  intro p e s m args below meth c s₁ B hml hv hd0
  obtain ⟨⟨As0, rfl, hAs⟩, hE, hWd⟩ := hv
  have hx := B.exec
  have hb := B.bytes
  have hr := B.returns
  have hts := atoms_spec (ws := Cond.code y cc nL ret :: lw_all) B.pre
  have hown : s.vm.findClass y.cls = some m.cls := findClass_of_methodNamed B.named
  have hlocks := B.notSynchronized
  have hl := lv_entry As0 (n := nL) (by rw [alS_sl hAs]; exact hlen)
  rw [lg_entry_eq]
  have key := body (GK p l e (headSpec (Cond.code y cc nL ret :: lw_all) rm).room s m As0.toArray below meth c (MQD lw_cs below (QcG D ad dA z0 P) As0.toArray s 0 0 (fun q => z0 ≤ q)) nL z0 D ad dA 0 0)
    ⟨p, e, s, m, As0.toArray, below, meth, c, _, 0, 0, rfl, hx, hb, hml, hown, fun w h => hts w (List.mem_cons_of_mem _ h), hE, Nat.zero_le _, Nat.zero_le _⟩ ?_ ?_ ?_
  · exact key s.drawn s.heap [] _ _ [] hd0 hWd va_S.rf hl (alL_args 0 hAs) True.intro
  · intro v ty σ' φ' pc lv e1 hdg hn hP d H locs ls l0 st0 hd hW hS hls hL hs
    obtain ⟨st1, rfl, hs1⟩ := alS_int hs
    cases alS_nil hs1
    refine W.endD hd ?_
    exact W.zret hx hb (hr.trans e1) hn (fun t ht hWm => ⟨⟨some (.int v), some (.int v), σ', φ', rfl, alS_rf _, hP, by rw [ht]; exact hW⟩, hS.F ht⟩) hS.2.2 hdg hlocks
  · intro v σ' φ' pc lv e1 hdg hP d H locs ls l0 st0 hd hW hS hls hL hs
    obtain ⟨a, st1, rfl, ha, hs1⟩ := alS_flt hs
    cases alS_nil hs1
    refine W.endD hd ?_
    exact W.fret hx hb (hr.trans e1) (fun t ht hWm => ⟨⟨some (.float a), some (.float v), σ', φ', rfl, ⟨⟨a, rfl, ha⟩, True.intro⟩, hP, by rw [ht]; exact hW⟩, hS.F ht⟩) hS.2.2 hdg hlocks
  · intro σ' φ' pc lv e1 hdg hP d H locs ls l0 st0 hd hW hS hls hL hs
    cases alS_nil hs
    refine W.endD hd ?_
    exact W.vret hx hb (hr.trans e1) (fun t ht hWm => ⟨⟨none, none, σ', φ', rfl, True.intro, hP, by rw [ht]; exact hW⟩, hS.F ht⟩) hS.2.2 hdg hlocks
end
section
/-! rules: one an instruction -/
section RULES
variable {K : KT} {l : Launch} {D : va_G} {ad : Nat → Nat} {dA : Nat → ClassId} {z0 : Nat} {tt : Nat → Nat} {cc : ByteArray} {own : String} {nL : Nat} {R : Room} {σ : Sg} {φ : Fl} {pc : Nat} {lv : List (Nat × Value)} {st : List Value}
theorem EnvU.drawn {s : State} (h : EnvU D ad dA z0 tt s) (d : Drawn) : EnvU D ad dA z0 tt (s.setDrawn d) := by
  obtain ⟨hK, hN, hT, hz, hD⟩ := h
  exact ⟨hK, fun w hw => (Cond.before_setDrawn #[] s d w).trans (hN w hw), hT, hz, hD⟩
theorem nest_at {s : State} {args : Array Value} {w : Cond} (h : NW s) (hw : w ∈ lw_nest) (ht : w.onTables = true) (d : Drawn) : w.before args (s.setDrawn d) = true := (Cond.before_setDrawn args s d w).trans (va_Nw.use ht (h w hw))
theorem g_iadd (C : Cx K l D ad dA z0 tt cc own nL R) {a b : Int32} (hd : decode cc pc = .ok (.iadd, 1)) (k : K σ φ (pc + 1) lv (.int (a + b) :: st)) : K σ φ pc lv (.int b :: .int a :: st) := by
  obtain ⟨p, e, s, m, args, below, meth, c, Q, cells, slots, rfl, hx, hb, hml, hown, hts, hE, hcl, hsl⟩ := C
  intro d H locs ls l0 st0 hd0 hW hS hls hL hs
  obtain ⟨t1, rfl, g1⟩ := alS_int hs
  obtain ⟨t2, rfl, g2⟩ := alS_int g1
  exact lv_iadd hx hb hd (k d H locs ls l0 _ hd0 hW hS hls hL ⟨rfl, g2⟩)
theorem g_isub (C : Cx K l D ad dA z0 tt cc own nL R) {a b : Int32} (hd : decode cc pc = .ok (.isub, 1)) (k : K σ φ (pc + 1) lv (.int (a - b) :: st)) : K σ φ pc lv (.int b :: .int a :: st) := by
  obtain ⟨p, e, s, m, args, below, meth, c, Q, cells, slots, rfl, hx, hb, hml, hown, hts, hE, hcl, hsl⟩ := C
  intro d H locs ls l0 st0 hd0 hW hS hls hL hs
  obtain ⟨t1, rfl, g1⟩ := alS_int hs
  obtain ⟨t2, rfl, g2⟩ := alS_int g1
  exact lv_isub hx hb hd (k d H locs ls l0 _ hd0 hW hS hls hL ⟨rfl, g2⟩)
theorem g_imul (C : Cx K l D ad dA z0 tt cc own nL R) {a b : Int32} (hd : decode cc pc = .ok (.imul, 1)) (k : K σ φ (pc + 1) lv (.int (a * b) :: st)) : K σ φ pc lv (.int b :: .int a :: st) := by
  obtain ⟨p, e, s, m, args, below, meth, c, Q, cells, slots, rfl, hx, hb, hml, hown, hts, hE, hcl, hsl⟩ := C
  intro d H locs ls l0 st0 hd0 hW hS hls hL hs
  obtain ⟨t1, rfl, g1⟩ := alS_int hs
  obtain ⟨t2, rfl, g2⟩ := alS_int g1
  exact lv_imul hx hb hd (k d H locs ls l0 _ hd0 hW hS hls hL ⟨rfl, g2⟩)
theorem g_iand (C : Cx K l D ad dA z0 tt cc own nL R) {a b : Int32} (hd : decode cc pc = .ok (.iand, 1)) (k : K σ φ (pc + 1) lv (.int (a &&& b) :: st)) : K σ φ pc lv (.int b :: .int a :: st) := by
  obtain ⟨p, e, s, m, args, below, meth, c, Q, cells, slots, rfl, hx, hb, hml, hown, hts, hE, hcl, hsl⟩ := C
  intro d H locs ls l0 st0 hd0 hW hS hls hL hs
  obtain ⟨t1, rfl, g1⟩ := alS_int hs
  obtain ⟨t2, rfl, g2⟩ := alS_int g1
  exact lv_iand hx hb hd (k d H locs ls l0 _ hd0 hW hS hls hL ⟨rfl, g2⟩)
theorem g_ixor (C : Cx K l D ad dA z0 tt cc own nL R) {a b : Int32} (hd : decode cc pc = .ok (.ixor, 1)) (k : K σ φ (pc + 1) lv (.int (a ^^^ b) :: st)) : K σ φ pc lv (.int b :: .int a :: st) := by
  obtain ⟨p, e, s, m, args, below, meth, c, Q, cells, slots, rfl, hx, hb, hml, hown, hts, hE, hcl, hsl⟩ := C
  intro d H locs ls l0 st0 hd0 hW hS hls hL hs
  obtain ⟨t1, rfl, g1⟩ := alS_int hs
  obtain ⟨t2, rfl, g2⟩ := alS_int g1
  exact lv_ixor hx hb hd (k d H locs ls l0 _ hd0 hW hS hls hL ⟨rfl, g2⟩)
theorem g_idiv (C : Cx K l D ad dA z0 tt cc own nL R) {a b : Int32} (hd : decode cc pc = .ok (.idiv, 1)) (hne : ¬ b = 0) (k : K σ φ (pc + 1) lv (.int (a / b) :: st)) : K σ φ pc lv (.int b :: .int a :: st) := by
  obtain ⟨p, e, s, m, args, below, meth, c, Q, cells, slots, rfl, hx, hb, hml, hown, hts, hE, hcl, hsl⟩ := C
  intro d H locs ls l0 st0 hd0 hW hS hls hL hs
  obtain ⟨t1, rfl, g1⟩ := alS_int hs
  obtain ⟨t2, rfl, g2⟩ := alS_int g1
  exact lv_idiv hx hb hd hne (k d H locs ls l0 _ hd0 hW hS hls hL ⟨rfl, g2⟩)
theorem g_irem (C : Cx K l D ad dA z0 tt cc own nL R) {a b : Int32} (hd : decode cc pc = .ok (.irem, 1)) (hne : ¬ b = 0) (k : K σ φ (pc + 1) lv (.int (a - a / b * b) :: st)) : K σ φ pc lv (.int b :: .int a :: st) := by
  obtain ⟨p, e, s, m, args, below, meth, c, Q, cells, slots, rfl, hx, hb, hml, hown, hts, hE, hcl, hsl⟩ := C
  intro d H locs ls l0 st0 hd0 hW hS hls hL hs
  obtain ⟨t1, rfl, g1⟩ := alS_int hs
  obtain ⟨t2, rfl, g2⟩ := alS_int g1
  exact lv_irem hx hb hd hne (k d H locs ls l0 _ hd0 hW hS hls hL ⟨rfl, g2⟩)
theorem g_ineg (C : Cx K l D ad dA z0 tt cc own nL R) {a : Int32} (hd : decode cc pc = .ok (.ineg, 1)) (k : K σ φ (pc + 1) lv (.int (-a) :: st)) : K σ φ pc lv (.int a :: st) := by
  obtain ⟨p, e, s, m, args, below, meth, c, Q, cells, slots, rfl, hx, hb, hml, hown, hts, hE, hcl, hsl⟩ := C
  intro d H locs ls l0 st0 hd0 hW hS hls hL hs
  obtain ⟨t1, rfl, g1⟩ := alS_int hs
  exact lv_ineg hx hb hd (k d H locs ls l0 _ hd0 hW hS hls hL ⟨rfl, g1⟩)
theorem g_i2c (C : Cx K l D ad dA z0 tt cc own nL R) {a v : Int32} (hd : decode cc pc = .ok (.i2c, 1)) (hv : (a.toUInt32 % 65536).toInt32 = v) (k : K σ φ (pc + 1) lv (.int v :: st)) : K σ φ pc lv (.int a :: st) := by
  obtain ⟨p, e, s, m, args, below, meth, c, Q, cells, slots, rfl, hx, hb, hml, hown, hts, hE, hcl, hsl⟩ := C
  intro d H locs ls l0 st0 hd0 hW hS hls hL hs
  obtain ⟨t1, rfl, g1⟩ := alS_int hs
  exact lv_i2c hx hb hd hv (k d H locs ls l0 _ hd0 hW hS hls hL ⟨rfl, g1⟩)
theorem g_i2f (C : Cx K l D ad dA z0 tt cc own nL R) {a : Int32} (hd : decode cc pc = .ok (.i2f, 1)) (k : K σ φ (pc + 1) lv (.float (FP.i2f a) :: st)) : K σ φ pc lv (.int a :: st) := by
  obtain ⟨p, e, s, m, args, below, meth, c, Q, cells, slots, rfl, hx, hb, hml, hown, hts, hE, hcl, hsl⟩ := C
  intro d H locs ls l0 st0 hd0 hW hS hls hL hs
  obtain ⟨t1, rfl, g1⟩ := alS_int hs
  exact lv_i2f hx hb hd (k d H locs ls l0 _ hd0 hW hS hls hL ⟨alV_rf _, g1⟩)
theorem g_f2i (C : Cx K l D ad dA z0 tt cc own nL R) {a : UInt32} (hd : decode cc pc = .ok (.f2i, 1)) (k : K σ φ (pc + 1) lv (.int (FP.f2i a) :: st)) : K σ φ pc lv (.float a :: st) := by
  obtain ⟨p, e, s, m, args, below, meth, c, Q, cells, slots, rfl, hx, hb, hml, hown, hts, hE, hcl, hsl⟩ := C
  intro d H locs ls l0 st0 hd0 hW hS hls hL hs
  obtain ⟨x1, t1, rfl, e1, g1⟩ := alS_flt hs
  refine lv_f2i hx hb hd ?_
  rw [fp_f2i e1]
  exact k d H locs ls l0 _ hd0 hW hS hls hL ⟨rfl, g1⟩
theorem g_f2d (C : Cx K l D ad dA z0 tt cc own nL R) {a : UInt32} (hd : decode cc pc = .ok (.f2d, 1)) (k : K σ φ (pc + 1) lv (.double (FP.f2d a) :: st)) : K σ φ pc lv (.float a :: st) := by
  obtain ⟨p, e, s, m, args, below, meth, c, Q, cells, slots, rfl, hx, hb, hml, hown, hts, hE, hcl, hsl⟩ := C
  intro d H locs ls l0 st0 hd0 hW hS hls hL hs
  obtain ⟨x1, t1, rfl, e1, g1⟩ := alS_flt hs
  refine lv_f2d_any hd0 lw_bits hx hb hd (fun r d1 hal hd1 => ?_)
  exact k d1 H locs ls l0 _ hd1 hW hS hls hL ⟨⟨r, rfl, al64_tr hal (fp_f2d e1)⟩, g1⟩
theorem g_fadd (C : Cx K l D ad dA z0 tt cc own nL R) {a b : UInt32} (hd : decode cc pc = .ok (.fadd, 1)) (k : K σ φ (pc + 1) lv (.float (FP.fadd a b) :: st)) : K σ φ pc lv (.float b :: .float a :: st) := by
  obtain ⟨p, e, s, m, args, below, meth, c, Q, cells, slots, rfl, hx, hb, hml, hown, hts, hE, hcl, hsl⟩ := C
  intro d H locs ls l0 st0 hd0 hW hS hls hL hs
  obtain ⟨x1, t1, rfl, e1, g1⟩ := alS_flt hs
  obtain ⟨x2, t2, rfl, e2, g2⟩ := alS_flt g1
  refine lv_fadd_any hd0 lw_bits hx hb hd (fun r d1 hal hd1 => ?_)
  rw [fp_add e2 e1] at hal
  exact k d1 H locs ls l0 _ hd1 hW hS hls hL ⟨⟨r, rfl, hal⟩, g2⟩
theorem g_fsub (C : Cx K l D ad dA z0 tt cc own nL R) {a b : UInt32} (hd : decode cc pc = .ok (.fsub, 1)) (k : K σ φ (pc + 1) lv (.float (FP.fsub a b) :: st)) : K σ φ pc lv (.float b :: .float a :: st) := by
  obtain ⟨p, e, s, m, args, below, meth, c, Q, cells, slots, rfl, hx, hb, hml, hown, hts, hE, hcl, hsl⟩ := C
  intro d H locs ls l0 st0 hd0 hW hS hls hL hs
  obtain ⟨x1, t1, rfl, e1, g1⟩ := alS_flt hs
  obtain ⟨x2, t2, rfl, e2, g2⟩ := alS_flt g1
  refine lv_fsub_any hd0 lw_bits hx hb hd (fun r d1 hal hd1 => ?_)
  rw [fp_sub e2 e1] at hal
  exact k d1 H locs ls l0 _ hd1 hW hS hls hL ⟨⟨r, rfl, hal⟩, g2⟩
theorem g_fmul (C : Cx K l D ad dA z0 tt cc own nL R) {a b : UInt32} (hd : decode cc pc = .ok (.fmul, 1)) (k : K σ φ (pc + 1) lv (.float (FP.fmul a b) :: st)) : K σ φ pc lv (.float b :: .float a :: st) := by
  obtain ⟨p, e, s, m, args, below, meth, c, Q, cells, slots, rfl, hx, hb, hml, hown, hts, hE, hcl, hsl⟩ := C
  intro d H locs ls l0 st0 hd0 hW hS hls hL hs
  obtain ⟨x1, t1, rfl, e1, g1⟩ := alS_flt hs
  obtain ⟨x2, t2, rfl, e2, g2⟩ := alS_flt g1
  refine lv_fmul_any hd0 lw_bits hx hb hd (fun r d1 hal hd1 => ?_)
  rw [fp_mul e2 e1] at hal
  exact k d1 H locs ls l0 _ hd1 hW hS hls hL ⟨⟨r, rfl, hal⟩, g2⟩
theorem g_fdiv (C : Cx K l D ad dA z0 tt cc own nL R) {a b : UInt32} (hd : decode cc pc = .ok (.fdiv, 1)) (k : K σ φ (pc + 1) lv (.float (FP.fdiv a b) :: st)) : K σ φ pc lv (.float b :: .float a :: st) := by
  obtain ⟨p, e, s, m, args, below, meth, c, Q, cells, slots, rfl, hx, hb, hml, hown, hts, hE, hcl, hsl⟩ := C
  intro d H locs ls l0 st0 hd0 hW hS hls hL hs
  obtain ⟨x1, t1, rfl, e1, g1⟩ := alS_flt hs
  obtain ⟨x2, t2, rfl, e2, g2⟩ := alS_flt g1
  refine lv_fdiv_any hd0 lw_bits hx hb hd (fun r d1 hal hd1 => ?_)
  rw [fp_div e2 e1] at hal
  exact k d1 H locs ls l0 _ hd1 hW hS hls hL ⟨⟨r, rfl, hal⟩, g2⟩
theorem g_fcmp (C : Cx K l D ad dA z0 tt cc own nL R) {a b : UInt32} {op : CmpOp} (hd : decode cc pc = .ok (.fcmp op, 1)) (k : K σ φ (pc + 1) lv (.int (Op.cmpValue (FP.fcmp a b) op) :: st)) : K σ φ pc lv (.float b :: .float a :: st) := by
  obtain ⟨p, e, s, m, args, below, meth, c, Q, cells, slots, rfl, hx, hb, hml, hown, hts, hE, hcl, hsl⟩ := C
  intro d H locs ls l0 st0 hd0 hW hS hls hL hs
  obtain ⟨x1, t1, rfl, e1, g1⟩ := alS_flt hs
  obtain ⟨x2, t2, rfl, e2, g2⟩ := alS_flt g1
  refine lv_fcmp hx hb hd ?_
  rw [fp_cmp e2 e1]
  exact k d H locs ls l0 _ hd0 hW hS hls hL ⟨rfl, g2⟩
theorem g_dcmp (C : Cx K l D ad dA z0 tt cc own nL R) {a b : UInt64} {op : CmpOp} (hd : decode cc pc = .ok (.dcmp op, 1)) (k : K σ φ (pc + 1) lv (.int (Op.cmpValue (FP.dcmp a b) op) :: st)) : K σ φ pc lv (.double b :: .double a :: st) := by
  obtain ⟨p, e, s, m, args, below, meth, c, Q, cells, slots, rfl, hx, hb, hml, hown, hts, hE, hcl, hsl⟩ := C
  intro d H locs ls l0 st0 hd0 hW hS hls hL hs
  obtain ⟨x1, t1, rfl, e1, g1⟩ := alS_dbl hs
  obtain ⟨x2, t2, rfl, e2, g2⟩ := alS_dbl g1
  refine lv_dcmp hx hb hd ?_
  rw [fp_dcmp e2 e1]
  exact k d H locs ls l0 _ hd0 hW hS hls hL ⟨rfl, g2⟩
theorem g_iconst (C : Cx K l D ad dA z0 tt cc own nL R) {n : Int} {v : Int32} (hd : decode cc pc = .ok (.iconst n, 1)) (hv : Int32.ofInt n = v) (k : K σ φ (pc + 1) lv (.int v :: st)) : K σ φ pc lv st := by
  obtain ⟨p, e, s, m, args, below, meth, c, Q, cells, slots, rfl, hx, hb, hml, hown, hts, hE, hcl, hsl⟩ := C
  intro d H locs ls l0 st0 hd0 hW hS hls hL hs
  exact lv_iconst hx hb hd hv (k d H locs ls l0 _ hd0 hW hS hls hL ⟨rfl, hs⟩)
theorem g_bipush (C : Cx K l D ad dA z0 tt cc own nL R) {n : Int} {v : Int32} (hd : decode cc pc = .ok (.bipush n, 2)) (hv : (Int8.ofInt n).toInt32 = v) (k : K σ φ (pc + 2) lv (.int v :: st)) : K σ φ pc lv st := by
  obtain ⟨p, e, s, m, args, below, meth, c, Q, cells, slots, rfl, hx, hb, hml, hown, hts, hE, hcl, hsl⟩ := C
  intro d H locs ls l0 st0 hd0 hW hS hls hL hs
  exact lv_bipush hx hb hd hv (k d H locs ls l0 _ hd0 hW hS hls hL ⟨rfl, hs⟩)
theorem g_sipush (C : Cx K l D ad dA z0 tt cc own nL R) {n : Int} {v : Int32} (hd : decode cc pc = .ok (.sipush n, 3)) (hv : (Int16.ofInt n).toInt32 = v) (k : K σ φ (pc + 3) lv (.int v :: st)) : K σ φ pc lv st := by
  obtain ⟨p, e, s, m, args, below, meth, c, Q, cells, slots, rfl, hx, hb, hml, hown, hts, hE, hcl, hsl⟩ := C
  intro d H locs ls l0 st0 hd0 hW hS hls hL hs
  exact lv_sipush hx hb hd hv (k d H locs ls l0 _ hd0 hW hS hls hL ⟨rfl, hs⟩)
theorem g_ldc (C : Cx K l D ad dA z0 tt cc own nL R) {index : Nat} {v : Int32} (hc : Cond.constant own index v ∈ lw_all) (hd : decode cc pc = .ok (.ldc index, 2)) (k : K σ φ (pc + 2) lv (.int v :: st)) : K σ φ pc lv st := by
  obtain ⟨p, e, s, m, args, below, meth, c, Q, cells, slots, rfl, hx, hb, hml, hown, hts, hE, hcl, hsl⟩ := C
  intro d H locs ls l0 st0 hd0 hW hS hls hL hs
  exact lv_ldc hx hb hown (dr_words hts d _ hc) hd (k d H locs ls l0 _ hd0 hW hS hls hL ⟨rfl, hs⟩)
theorem g_ldcf (C : Cx K l D ad dA z0 tt cc own nL R) {index : Nat} {v : UInt32} (hc : Cond.constantFloat own index v ∈ lw_all) (hd : decode cc pc = .ok (.ldc index, 2)) (k : K σ φ (pc + 2) lv (.float v :: st)) : K σ φ pc lv st := by
  obtain ⟨p, e, s, m, args, below, meth, c, Q, cells, slots, rfl, hx, hb, hml, hown, hts, hE, hcl, hsl⟩ := C
  intro d H locs ls l0 st0 hd0 hW hS hls hL hs
  exact lv_ldcf hx hb hown (dr_words hts d _ hc) hd (k d H locs ls l0 _ hd0 hW hS hls hL ⟨alV_rf _, hs⟩)
theorem g_fconst0 (C : Cx K l D ad dA z0 tt cc own nL R) (hd : decode cc pc = .ok (.fconst 0, 1)) (k : K σ φ (pc + 1) lv (.float FP.fconst0 :: st)) : K σ φ pc lv st := by
  obtain ⟨p, e, s, m, args, below, meth, c, Q, cells, slots, rfl, hx, hb, hml, hown, hts, hE, hcl, hsl⟩ := C
  intro d H locs ls l0 st0 hd0 hW hS hls hL hs
  exact lv_fconst0 hx hb hd (k d H locs ls l0 _ hd0 hW hS hls hL ⟨alV_rf _, hs⟩)
theorem g_fconst1 (C : Cx K l D ad dA z0 tt cc own nL R) (hd : decode cc pc = .ok (.fconst 1, 1)) (k : K σ φ (pc + 1) lv (.float FP.fconst1 :: st)) : K σ φ pc lv st := by
  obtain ⟨p, e, s, m, args, below, meth, c, Q, cells, slots, rfl, hx, hb, hml, hown, hts, hE, hcl, hsl⟩ := C
  intro d H locs ls l0 st0 hd0 hW hS hls hL hs
  exact lv_fconst1 hx hb hd (k d H locs ls l0 _ hd0 hW hS hls hL ⟨alV_rf _, hs⟩)
theorem g_fconst2 (C : Cx K l D ad dA z0 tt cc own nL R) (hd : decode cc pc = .ok (.fconst 2, 1)) (k : K σ φ (pc + 1) lv (.float FP.fconst2 :: st)) : K σ φ pc lv st := by
  obtain ⟨p, e, s, m, args, below, meth, c, Q, cells, slots, rfl, hx, hb, hml, hown, hts, hE, hcl, hsl⟩ := C
  intro d H locs ls l0 st0 hd0 hW hS hls hL hs
  exact lv_fconst2 hx hb hd (k d H locs ls l0 _ hd0 hW hS hls hL ⟨alV_rf _, hs⟩)
theorem g_iload_n (C : Cx K l D ad dA z0 tt cc own nL R) {k0 : Fin 4} {i : Nat} {x : Int32} (hd : decode cc pc = .ok (.iload_n k0, 1)) (hi : (k0 : Nat) = i) (j : Nat) (hj : lv[j]? = some (i, .int x)) (k : K σ φ (pc + 1) lv (.int x :: st)) : K σ φ pc lv st := by
  obtain ⟨p, e, s, m, args, below, meth, c, Q, cells, slots, rfl, hx, hb, hml, hown, hts, hE, hcl, hsl⟩ := C
  intro d H locs ls l0 st0 hd0 hW hS hls hL hs
  obtain ⟨v, hv, ev⟩ := alL_at j hL hj
  cases (ev : v = .int x)
  exact lv_iload_n hx hb hd hi (lv_at hls j hv) (k d H locs ls l0 _ hd0 hW hS hls hL ⟨rfl, hs⟩)
theorem g_iload (C : Cx K l D ad dA z0 tt cc own nL R) {i : Nat} {x : Int32} (hd : decode cc pc = .ok (.iload i, 2)) (j : Nat) (hj : lv[j]? = some (i, .int x)) (k : K σ φ (pc + 2) lv (.int x :: st)) : K σ φ pc lv st := by
  obtain ⟨p, e, s, m, args, below, meth, c, Q, cells, slots, rfl, hx, hb, hml, hown, hts, hE, hcl, hsl⟩ := C
  intro d H locs ls l0 st0 hd0 hW hS hls hL hs
  obtain ⟨v, hv, ev⟩ := alL_at j hL hj
  cases (ev : v = .int x)
  exact lv_iload hx hb hd (lv_at hls j hv) (k d H locs ls l0 _ hd0 hW hS hls hL ⟨rfl, hs⟩)
theorem g_aload_n (C : Cx K l D ad dA z0 tt cc own nL R) {k0 : Fin 4} {i : Nat} {x : Nat} (hd : decode cc pc = .ok (.aload_n k0, 1)) (hi : (k0 : Nat) = i) (j : Nat) (hj : lv[j]? = some (i, .ref x)) (k : K σ φ (pc + 1) lv (.ref x :: st)) : K σ φ pc lv st := by
  obtain ⟨p, e, s, m, args, below, meth, c, Q, cells, slots, rfl, hx, hb, hml, hown, hts, hE, hcl, hsl⟩ := C
  intro d H locs ls l0 st0 hd0 hW hS hls hL hs
  obtain ⟨v, hv, ev⟩ := alL_at j hL hj
  cases (ev : v = .ref x)
  exact lv_aload_n hx hb hd hi (lv_at hls j hv) (k d H locs ls l0 _ hd0 hW hS hls hL ⟨rfl, hs⟩)
theorem g_aload (C : Cx K l D ad dA z0 tt cc own nL R) {i : Nat} {x : Nat} (hd : decode cc pc = .ok (.aload i, 2)) (j : Nat) (hj : lv[j]? = some (i, .ref x)) (k : K σ φ (pc + 2) lv (.ref x :: st)) : K σ φ pc lv st := by
  obtain ⟨p, e, s, m, args, below, meth, c, Q, cells, slots, rfl, hx, hb, hml, hown, hts, hE, hcl, hsl⟩ := C
  intro d H locs ls l0 st0 hd0 hW hS hls hL hs
  obtain ⟨v, hv, ev⟩ := alL_at j hL hj
  cases (ev : v = .ref x)
  exact lv_aload hx hb hd (lv_at hls j hv) (k d H locs ls l0 _ hd0 hW hS hls hL ⟨rfl, hs⟩)
theorem g_fload_n (C : Cx K l D ad dA z0 tt cc own nL R) {k0 : Fin 4} {i : Nat} {x : UInt32} (hd : decode cc pc = .ok (.fload_n k0, 1)) (hi : (k0 : Nat) = i) (j : Nat) (hj : lv[j]? = some (i, .float x)) (k : K σ φ (pc + 1) lv (.float x :: st)) : K σ φ pc lv st := by
  obtain ⟨p, e, s, m, args, below, meth, c, Q, cells, slots, rfl, hx, hb, hml, hown, hts, hE, hcl, hsl⟩ := C
  intro d H locs ls l0 st0 hd0 hW hS hls hL hs
  obtain ⟨v, hv, ev⟩ := alL_at j hL hj
  obtain ⟨x0, rfl, e0⟩ := ev
  exact lv_fload_n hx hb hd hi (lv_at hls j hv) (k d H locs ls l0 _ hd0 hW hS hls hL ⟨⟨x0, rfl, e0⟩, hs⟩)
theorem g_fload (C : Cx K l D ad dA z0 tt cc own nL R) {i : Nat} {x : UInt32} (hd : decode cc pc = .ok (.fload i, 2)) (j : Nat) (hj : lv[j]? = some (i, .float x)) (k : K σ φ (pc + 2) lv (.float x :: st)) : K σ φ pc lv st := by
  obtain ⟨p, e, s, m, args, below, meth, c, Q, cells, slots, rfl, hx, hb, hml, hown, hts, hE, hcl, hsl⟩ := C
  intro d H locs ls l0 st0 hd0 hW hS hls hL hs
  obtain ⟨v, hv, ev⟩ := alL_at j hL hj
  obtain ⟨x0, rfl, e0⟩ := ev
  exact lv_fload hx hb hd (lv_at hls j hv) (k d H locs ls l0 _ hd0 hW hS hls hL ⟨⟨x0, rfl, e0⟩, hs⟩)
theorem g_dload_n (C : Cx K l D ad dA z0 tt cc own nL R) {k0 : Fin 4} {i : Nat} {x : UInt64} (hd : decode cc pc = .ok (.dload_n k0, 1)) (hi : (k0 : Nat) = i) (j : Nat) (hj : lv[j]? = some (i, .double x)) (k : K σ φ (pc + 1) lv (.double x :: st)) : K σ φ pc lv st := by
  obtain ⟨p, e, s, m, args, below, meth, c, Q, cells, slots, rfl, hx, hb, hml, hown, hts, hE, hcl, hsl⟩ := C
  intro d H locs ls l0 st0 hd0 hW hS hls hL hs
  obtain ⟨v, hv, ev⟩ := alL_at j hL hj
  obtain ⟨x0, rfl, e0⟩ := ev
  exact lv_dload_n hx hb hd hi (lv_at hls j hv) (k d H locs ls l0 _ hd0 hW hS hls hL ⟨⟨x0, rfl, e0⟩, hs⟩)
theorem g_dload (C : Cx K l D ad dA z0 tt cc own nL R) {i : Nat} {x : UInt64} (hd : decode cc pc = .ok (.dload i, 2)) (j : Nat) (hj : lv[j]? = some (i, .double x)) (k : K σ φ (pc + 2) lv (.double x :: st)) : K σ φ pc lv st := by
  obtain ⟨p, e, s, m, args, below, meth, c, Q, cells, slots, rfl, hx, hb, hml, hown, hts, hE, hcl, hsl⟩ := C
  intro d H locs ls l0 st0 hd0 hW hS hls hL hs
  obtain ⟨v, hv, ev⟩ := alL_at j hL hj
  obtain ⟨x0, rfl, e0⟩ := ev
  exact lv_dload hx hb hd (lv_at hls j hv) (k d H locs ls l0 _ hd0 hW hS hls hL ⟨⟨x0, rfl, e0⟩, hs⟩)
theorem g_istore_n (C : Cx K l D ad dA z0 tt cc own nL R) {k0 : Fin 4} {i : Nat} {x : Int32} {lv' : List (Nat × Value)} (hd : decode cc pc = .ok (.istore_n k0, 1)) (hi : (k0 : Nat) = i) (hn : i < nL) (hl : (i, Value.int x) :: lv.filter (fun q => !(q.1 == i) && !(q.1 + 1 == i && q.2.category == 2)) = lv') (k : K σ φ (pc + 1) lv' st) : K σ φ pc lv (.int x :: st) := by
  obtain ⟨p, e, s, m, args, below, meth, c, Q, cells, slots, rfl, hx, hb, hml, hown, hts, hE, hcl, hsl⟩ := C
  intro d H locs ls l0 st0 hd0 hW hS hls hL hs
  obtain ⟨t1, rfl, g1⟩ := alS_int hs
  subst hl
  refine lv_istore_n (lv' := _) hx hb hd hi hls hn rfl (fun ls1 hls1 => ?_)
  exact k d H locs ls1 _ _ hd0 hW hS hls1 ⟨⟨rfl, rfl⟩, alL_filter (fun _ _ _ e => by dsimp only; rw [e]) hL⟩ g1
theorem g_istore (C : Cx K l D ad dA z0 tt cc own nL R) {i : Nat} {x : Int32} {lv' : List (Nat × Value)} (hd : decode cc pc = .ok (.istore i, 2)) (hn : i < nL) (hl : (i, Value.int x) :: lv.filter (fun q => !(q.1 == i) && !(q.1 + 1 == i && q.2.category == 2)) = lv') (k : K σ φ (pc + 2) lv' st) : K σ φ pc lv (.int x :: st) := by
  obtain ⟨p, e, s, m, args, below, meth, c, Q, cells, slots, rfl, hx, hb, hml, hown, hts, hE, hcl, hsl⟩ := C
  intro d H locs ls l0 st0 hd0 hW hS hls hL hs
  obtain ⟨t1, rfl, g1⟩ := alS_int hs
  subst hl
  refine lv_istore (lv' := _) hx hb hd hls hn rfl (fun ls1 hls1 => ?_)
  exact k d H locs ls1 _ _ hd0 hW hS hls1 ⟨⟨rfl, rfl⟩, alL_filter (fun _ _ _ e => by dsimp only; rw [e]) hL⟩ g1
theorem g_astore_n (C : Cx K l D ad dA z0 tt cc own nL R) {k0 : Fin 4} {i : Nat} {x : Nat} {lv' : List (Nat × Value)} (hd : decode cc pc = .ok (.astore_n k0, 1)) (hi : (k0 : Nat) = i) (hn : i < nL) (hl : (i, Value.ref x) :: lv.filter (fun q => !(q.1 == i) && !(q.1 + 1 == i && q.2.category == 2)) = lv') (k : K σ φ (pc + 1) lv' st) : K σ φ pc lv (.ref x :: st) := by
  obtain ⟨p, e, s, m, args, below, meth, c, Q, cells, slots, rfl, hx, hb, hml, hown, hts, hE, hcl, hsl⟩ := C
  intro d H locs ls l0 st0 hd0 hW hS hls hL hs
  obtain ⟨t1, rfl, g1⟩ := alS_ref hs
  subst hl
  refine lv_astore_n (lv' := _) hx hb hd hi hls hn rfl (fun ls1 hls1 => ?_)
  exact k d H locs ls1 _ _ hd0 hW hS hls1 ⟨⟨rfl, rfl⟩, alL_filter (fun _ _ _ e => by dsimp only; rw [e]) hL⟩ g1
theorem g_astore (C : Cx K l D ad dA z0 tt cc own nL R) {i : Nat} {x : Nat} {lv' : List (Nat × Value)} (hd : decode cc pc = .ok (.astore i, 2)) (hn : i < nL) (hl : (i, Value.ref x) :: lv.filter (fun q => !(q.1 == i) && !(q.1 + 1 == i && q.2.category == 2)) = lv') (k : K σ φ (pc + 2) lv' st) : K σ φ pc lv (.ref x :: st) := by
  obtain ⟨p, e, s, m, args, below, meth, c, Q, cells, slots, rfl, hx, hb, hml, hown, hts, hE, hcl, hsl⟩ := C
  intro d H locs ls l0 st0 hd0 hW hS hls hL hs
  obtain ⟨t1, rfl, g1⟩ := alS_ref hs
  subst hl
  refine lv_astore (lv' := _) hx hb hd hls hn rfl (fun ls1 hls1 => ?_)
  exact k d H locs ls1 _ _ hd0 hW hS hls1 ⟨⟨rfl, rfl⟩, alL_filter (fun _ _ _ e => by dsimp only; rw [e]) hL⟩ g1
theorem g_fstore_n (C : Cx K l D ad dA z0 tt cc own nL R) {k0 : Fin 4} {i : Nat} {x : UInt32} {lv' : List (Nat × Value)} (hd : decode cc pc = .ok (.fstore_n k0, 1)) (hi : (k0 : Nat) = i) (hn : i < nL) (hl : (i, Value.float x) :: lv.filter (fun q => !(q.1 == i) && !(q.1 + 1 == i && q.2.category == 2)) = lv') (k : K σ φ (pc + 1) lv' st) : K σ φ pc lv (.float x :: st) := by
  obtain ⟨p, e, s, m, args, below, meth, c, Q, cells, slots, rfl, hx, hb, hml, hown, hts, hE, hcl, hsl⟩ := C
  intro d H locs ls l0 st0 hd0 hW hS hls hL hs
  obtain ⟨x1, t1, rfl, e1, g1⟩ := alS_flt hs
  subst hl
  refine lv_fstore_n (lv' := _) hx hb hd hi hls hn rfl (fun ls1 hls1 => ?_)
  exact k d H locs ls1 _ _ hd0 hW hS hls1 ⟨⟨rfl, ⟨x1, rfl, e1⟩⟩, alL_filter (fun _ _ _ e => by dsimp only; rw [e]) hL⟩ g1
theorem g_fstore (C : Cx K l D ad dA z0 tt cc own nL R) {i : Nat} {x : UInt32} {lv' : List (Nat × Value)} (hd : decode cc pc = .ok (.fstore i, 2)) (hn : i < nL) (hl : (i, Value.float x) :: lv.filter (fun q => !(q.1 == i) && !(q.1 + 1 == i && q.2.category == 2)) = lv') (k : K σ φ (pc + 2) lv' st) : K σ φ pc lv (.float x :: st) := by
  obtain ⟨p, e, s, m, args, below, meth, c, Q, cells, slots, rfl, hx, hb, hml, hown, hts, hE, hcl, hsl⟩ := C
  intro d H locs ls l0 st0 hd0 hW hS hls hL hs
  obtain ⟨x1, t1, rfl, e1, g1⟩ := alS_flt hs
  subst hl
  refine lv_fstore (lv' := _) hx hb hd hls hn rfl (fun ls1 hls1 => ?_)
  exact k d H locs ls1 _ _ hd0 hW hS hls1 ⟨⟨rfl, ⟨x1, rfl, e1⟩⟩, alL_filter (fun _ _ _ e => by dsimp only; rw [e]) hL⟩ g1
theorem g_dstore_n (C : Cx K l D ad dA z0 tt cc own nL R) {k0 : Fin 4} {i : Nat} {x : UInt64} {lv' : List (Nat × Value)} (hd : decode cc pc = .ok (.dstore_n k0, 1)) (hi : (k0 : Nat) = i) (hn : i + 1 < nL) (hl : (i, Value.double x) :: lv.filter (fun q => !(q.1 == i) && (!(q.1 == i + 1) && !(q.1 + 1 == i && q.2.category == 2))) = lv') (k : K σ φ (pc + 1) lv' st) : K σ φ pc lv (.double x :: st) := by
  obtain ⟨p, e, s, m, args, below, meth, c, Q, cells, slots, rfl, hx, hb, hml, hown, hts, hE, hcl, hsl⟩ := C
  intro d H locs ls l0 st0 hd0 hW hS hls hL hs
  obtain ⟨x1, t1, rfl, e1, g1⟩ := alS_dbl hs
  subst hl
  refine lv_dstore_n (lv' := _) hx hb hd hi hls hn rfl (fun ls1 hls1 => ?_)
  exact k d H locs ls1 _ _ hd0 hW hS hls1 ⟨⟨rfl, ⟨x1, rfl, e1⟩⟩, alL_filter (fun _ _ _ e => by dsimp only; rw [e]) hL⟩ g1
theorem g_dstore (C : Cx K l D ad dA z0 tt cc own nL R) {i : Nat} {x : UInt64} {lv' : List (Nat × Value)} (hd : decode cc pc = .ok (.dstore i, 2)) (hn : i + 1 < nL) (hl : (i, Value.double x) :: lv.filter (fun q => !(q.1 == i) && (!(q.1 == i + 1) && !(q.1 + 1 == i && q.2.category == 2))) = lv') (k : K σ φ (pc + 2) lv' st) : K σ φ pc lv (.double x :: st) := by
  obtain ⟨p, e, s, m, args, below, meth, c, Q, cells, slots, rfl, hx, hb, hml, hown, hts, hE, hcl, hsl⟩ := C
  intro d H locs ls l0 st0 hd0 hW hS hls hL hs
  obtain ⟨x1, t1, rfl, e1, g1⟩ := alS_dbl hs
  subst hl
  refine lv_dstore (lv' := _) hx hb hd hls hn rfl (fun ls1 hls1 => ?_)
  exact k d H locs ls1 _ _ hd0 hW hS hls1 ⟨⟨rfl, ⟨x1, rfl, e1⟩⟩, alL_filter (fun _ _ _ e => by dsimp only; rw [e]) hL⟩ g1
theorem g_iinc (C : Cx K l D ad dA z0 tt cc own nL R) {i : Nat} {n : Int} {x v : Int32} {lv' : List (Nat × Value)} (hd : decode cc pc = .ok (.iinc i n, 3)) (j : Nat) (hj : lv[j]? = some (i, .int x)) (hv : x + Int32.ofInt n = v) (hn : i < nL) (hl : (i, Value.int v) :: lv.filter (fun q => !(q.1 == i) && !(q.1 + 1 == i && q.2.category == 2)) = lv') (k : K σ φ (pc + 3) lv' st) : K σ φ pc lv st := by
  obtain ⟨p, e, s, m, args, below, meth, c, Q, cells, slots, rfl, hx, hb, hml, hown, hts, hE, hcl, hsl⟩ := C
  intro d H locs ls l0 st0 hd0 hW hS hls hL hs
  obtain ⟨v0, hv0, ev⟩ := alL_at j hL hj
  cases (ev : v0 = .int x)
  subst hl
  refine lv_iinc (lv' := _) hx hb hd hls (k := j) hv0 hv hn rfl (fun ls1 hls1 => ?_)
  exact k d H locs ls1 _ _ hd0 hW hS hls1 ⟨⟨rfl, rfl⟩, alL_filter (fun _ _ _ e => by dsimp only; rw [e]) hL⟩ hs
/-- the locals in another order, or fewer -/
theorem g_loc (C : Cx K l D ad dA z0 tt cc own nL R) {lv' : List (Nat × Value)} (ks : List Nat) (hl : lv_pick lv ks = lv') (k : K σ φ pc lv' st) : K σ φ pc lv st := by
  obtain ⟨p, e, s, m, args, below, meth, c, Q, cells, slots, rfl, hx, hb, hml, hown, hts, hE, hcl, hsl⟩ := C
  intro d H locs ls l0 st0 hd0 hW hS hls hL hs
  subst hl
  exact k d H locs ls _ _ hd0 hW hS (lv_sub hls ks rfl) (alL_pick hL ks) hs
theorem g_dup (C : Cx K l D ad dA z0 tt cc own nL R) {v : Value} (hd : decode cc pc = .ok (.dup, 1)) (hv : v.category = 1) (k : K σ φ (pc + 1) lv (v :: v :: st)) : K σ φ pc lv (v :: st) := by
  obtain ⟨p, e, s, m, args, below, meth, c, Q, cells, slots, rfl, hx, hb, hml, hown, hts, hE, hcl, hsl⟩ := C
  intro d H locs ls l0 st0 hd0 hW hS hls hL hs
  obtain ⟨x1, t1, rfl, e1, g1⟩ := alS_cons hs
  exact lv_dup hx hb hd ((alV_cat e1).trans hv) (k d H locs ls l0 _ hd0 hW hS hls hL ⟨e1, e1, g1⟩)
theorem g_pop (C : Cx K l D ad dA z0 tt cc own nL R) {v : Value} (hd : decode cc pc = .ok (.pop, 1)) (hv : v.category = 1) (k : K σ φ (pc + 1) lv st) : K σ φ pc lv (v :: st) := by
  obtain ⟨p, e, s, m, args, below, meth, c, Q, cells, slots, rfl, hx, hb, hml, hown, hts, hE, hcl, hsl⟩ := C
  intro d H locs ls l0 st0 hd0 hW hS hls hL hs
  obtain ⟨x1, t1, rfl, e1, g1⟩ := alS_cons hs
  exact lv_pop hx hb hd ((alV_cat e1).trans hv) (k d H locs ls l0 _ hd0 hW hS hls hL g1)
theorem g_dup2 (C : Cx K l D ad dA z0 tt cc own nL R) {v u : Value} (hd : decode cc pc = .ok (.dup2, 1)) (hv : v.category = 1) (hu : u.category = 1) (k : K σ φ (pc + 1) lv (v :: u :: v :: u :: st)) : K σ φ pc lv (v :: u :: st) := by
  obtain ⟨p, e, s, m, args, below, meth, c, Q, cells, slots, rfl, hx, hb, hml, hown, hts, hE, hcl, hsl⟩ := C
  intro d H locs ls l0 st0 hd0 hW hS hls hL hs
  obtain ⟨x1, t1, rfl, e1, g1⟩ := alS_cons hs
  obtain ⟨x2, t2, rfl, e2, g2⟩ := alS_cons g1
  exact lv_dup2_11 hx hb hd ((alV_cat e1).trans hv) ((alV_cat e2).trans hu) (k d H locs ls l0 _ hd0 hW hS hls hL ⟨e1, e2, e1, e2, g2⟩)
theorem g_if_eq (C : Cx K l D ad dA z0 tt cc own nL R) {x : Int32} {off : Int} {tgt : Nat} (hd : decode cc pc = .ok (.ifCond .eq off, 3)) (ht : (pc : Int) + off = (tgt : Int)) (kt : x = 0 → K σ φ tgt lv st) (kf : ¬ x = 0 → K σ φ (pc + 3) lv st) : K σ φ pc lv (.int x :: st) := by
  obtain ⟨p, e, s, m, args, below, meth, c, Q, cells, slots, rfl, hx, hb, hml, hown, hts, hE, hcl, hsl⟩ := C
  intro d H locs ls l0 st0 hd0 hW hS hls hL hs
  obtain ⟨t1, rfl, g1⟩ := alS_int hs
  exact lv_if_eq hx hb hd ht (fun h => kt h d H locs ls l0 _ hd0 hW hS hls hL g1) (fun h => kf h d H locs ls l0 _ hd0 hW hS hls hL g1)
theorem g_icmp_eq (C : Cx K l D ad dA z0 tt cc own nL R) {x y : Int32} {off : Int} {tgt : Nat} (hd : decode cc pc = .ok (.if_icmp .eq off, 3)) (ht : (pc : Int) + off = (tgt : Int)) (kt : x = y → K σ φ tgt lv st) (kf : ¬ x = y → K σ φ (pc + 3) lv st) : K σ φ pc lv (.int y :: .int x :: st) := by
  obtain ⟨p, e, s, m, args, below, meth, c, Q, cells, slots, rfl, hx, hb, hml, hown, hts, hE, hcl, hsl⟩ := C
  intro d H locs ls l0 st0 hd0 hW hS hls hL hs
  obtain ⟨t1, rfl, g1⟩ := alS_int hs
  obtain ⟨t2, rfl, g2⟩ := alS_int g1
  exact lv_icmp_eq hx hb hd ht (fun h => kt h d H locs ls l0 _ hd0 hW hS hls hL g2) (fun h => kf h d H locs ls l0 _ hd0 hW hS hls hL g2)
theorem g_if_lt (C : Cx K l D ad dA z0 tt cc own nL R) {x : Int32} {off : Int} {tgt : Nat} (hd : decode cc pc = .ok (.ifCond .lt off, 3)) (ht : (pc : Int) + off = (tgt : Int)) (kt : x < 0 → K σ φ tgt lv st) (kf : ¬ x < 0 → K σ φ (pc + 3) lv st) : K σ φ pc lv (.int x :: st) := by
  obtain ⟨p, e, s, m, args, below, meth, c, Q, cells, slots, rfl, hx, hb, hml, hown, hts, hE, hcl, hsl⟩ := C
  intro d H locs ls l0 st0 hd0 hW hS hls hL hs
  obtain ⟨t1, rfl, g1⟩ := alS_int hs
  exact lv_if_lt hx hb hd ht (fun h => kt h d H locs ls l0 _ hd0 hW hS hls hL g1) (fun h => kf h d H locs ls l0 _ hd0 hW hS hls hL g1)
theorem g_icmp_lt (C : Cx K l D ad dA z0 tt cc own nL R) {x y : Int32} {off : Int} {tgt : Nat} (hd : decode cc pc = .ok (.if_icmp .lt off, 3)) (ht : (pc : Int) + off = (tgt : Int)) (kt : x < y → K σ φ tgt lv st) (kf : ¬ x < y → K σ φ (pc + 3) lv st) : K σ φ pc lv (.int y :: .int x :: st) := by
  obtain ⟨p, e, s, m, args, below, meth, c, Q, cells, slots, rfl, hx, hb, hml, hown, hts, hE, hcl, hsl⟩ := C
  intro d H locs ls l0 st0 hd0 hW hS hls hL hs
  obtain ⟨t1, rfl, g1⟩ := alS_int hs
  obtain ⟨t2, rfl, g2⟩ := alS_int g1
  exact lv_icmp_lt hx hb hd ht (fun h => kt h d H locs ls l0 _ hd0 hW hS hls hL g2) (fun h => kf h d H locs ls l0 _ hd0 hW hS hls hL g2)
theorem g_if_ge (C : Cx K l D ad dA z0 tt cc own nL R) {x : Int32} {off : Int} {tgt : Nat} (hd : decode cc pc = .ok (.ifCond .ge off, 3)) (ht : (pc : Int) + off = (tgt : Int)) (kt : 0 ≤ x → K σ φ tgt lv st) (kf : ¬ 0 ≤ x → K σ φ (pc + 3) lv st) : K σ φ pc lv (.int x :: st) := by
  obtain ⟨p, e, s, m, args, below, meth, c, Q, cells, slots, rfl, hx, hb, hml, hown, hts, hE, hcl, hsl⟩ := C
  intro d H locs ls l0 st0 hd0 hW hS hls hL hs
  obtain ⟨t1, rfl, g1⟩ := alS_int hs
  exact lv_if_ge hx hb hd ht (fun h => kt h d H locs ls l0 _ hd0 hW hS hls hL g1) (fun h => kf h d H locs ls l0 _ hd0 hW hS hls hL g1)
theorem g_icmp_ge (C : Cx K l D ad dA z0 tt cc own nL R) {x y : Int32} {off : Int} {tgt : Nat} (hd : decode cc pc = .ok (.if_icmp .ge off, 3)) (ht : (pc : Int) + off = (tgt : Int)) (kt : y ≤ x → K σ φ tgt lv st) (kf : ¬ y ≤ x → K σ φ (pc + 3) lv st) : K σ φ pc lv (.int y :: .int x :: st) := by
  obtain ⟨p, e, s, m, args, below, meth, c, Q, cells, slots, rfl, hx, hb, hml, hown, hts, hE, hcl, hsl⟩ := C
  intro d H locs ls l0 st0 hd0 hW hS hls hL hs
  obtain ⟨t1, rfl, g1⟩ := alS_int hs
  obtain ⟨t2, rfl, g2⟩ := alS_int g1
  exact lv_icmp_ge hx hb hd ht (fun h => kt h d H locs ls l0 _ hd0 hW hS hls hL g2) (fun h => kf h d H locs ls l0 _ hd0 hW hS hls hL g2)
theorem g_if_gt (C : Cx K l D ad dA z0 tt cc own nL R) {x : Int32} {off : Int} {tgt : Nat} (hd : decode cc pc = .ok (.ifCond .gt off, 3)) (ht : (pc : Int) + off = (tgt : Int)) (kt : 0 < x → K σ φ tgt lv st) (kf : ¬ 0 < x → K σ φ (pc + 3) lv st) : K σ φ pc lv (.int x :: st) := by
  obtain ⟨p, e, s, m, args, below, meth, c, Q, cells, slots, rfl, hx, hb, hml, hown, hts, hE, hcl, hsl⟩ := C
  intro d H locs ls l0 st0 hd0 hW hS hls hL hs
  obtain ⟨t1, rfl, g1⟩ := alS_int hs
  exact lv_if_gt hx hb hd ht (fun h => kt h d H locs ls l0 _ hd0 hW hS hls hL g1) (fun h => kf h d H locs ls l0 _ hd0 hW hS hls hL g1)
theorem g_icmp_gt (C : Cx K l D ad dA z0 tt cc own nL R) {x y : Int32} {off : Int} {tgt : Nat} (hd : decode cc pc = .ok (.if_icmp .gt off, 3)) (ht : (pc : Int) + off = (tgt : Int)) (kt : y < x → K σ φ tgt lv st) (kf : ¬ y < x → K σ φ (pc + 3) lv st) : K σ φ pc lv (.int y :: .int x :: st) := by
  obtain ⟨p, e, s, m, args, below, meth, c, Q, cells, slots, rfl, hx, hb, hml, hown, hts, hE, hcl, hsl⟩ := C
  intro d H locs ls l0 st0 hd0 hW hS hls hL hs
  obtain ⟨t1, rfl, g1⟩ := alS_int hs
  obtain ⟨t2, rfl, g2⟩ := alS_int g1
  exact lv_icmp_gt hx hb hd ht (fun h => kt h d H locs ls l0 _ hd0 hW hS hls hL g2) (fun h => kf h d H locs ls l0 _ hd0 hW hS hls hL g2)
theorem g_if_le (C : Cx K l D ad dA z0 tt cc own nL R) {x : Int32} {off : Int} {tgt : Nat} (hd : decode cc pc = .ok (.ifCond .le off, 3)) (ht : (pc : Int) + off = (tgt : Int)) (kt : x ≤ 0 → K σ φ tgt lv st) (kf : ¬ x ≤ 0 → K σ φ (pc + 3) lv st) : K σ φ pc lv (.int x :: st) := by
  obtain ⟨p, e, s, m, args, below, meth, c, Q, cells, slots, rfl, hx, hb, hml, hown, hts, hE, hcl, hsl⟩ := C
  intro d H locs ls l0 st0 hd0 hW hS hls hL hs
  obtain ⟨t1, rfl, g1⟩ := alS_int hs
  exact lv_if_le hx hb hd ht (fun h => kt h d H locs ls l0 _ hd0 hW hS hls hL g1) (fun h => kf h d H locs ls l0 _ hd0 hW hS hls hL g1)
theorem g_icmp_le (C : Cx K l D ad dA z0 tt cc own nL R) {x y : Int32} {off : Int} {tgt : Nat} (hd : decode cc pc = .ok (.if_icmp .le off, 3)) (ht : (pc : Int) + off = (tgt : Int)) (kt : x ≤ y → K σ φ tgt lv st) (kf : ¬ x ≤ y → K σ φ (pc + 3) lv st) : K σ φ pc lv (.int y :: .int x :: st) := by
  obtain ⟨p, e, s, m, args, below, meth, c, Q, cells, slots, rfl, hx, hb, hml, hown, hts, hE, hcl, hsl⟩ := C
  intro d H locs ls l0 st0 hd0 hW hS hls hL hs
  obtain ⟨t1, rfl, g1⟩ := alS_int hs
  obtain ⟨t2, rfl, g2⟩ := alS_int g1
  exact lv_icmp_le hx hb hd ht (fun h => kt h d H locs ls l0 _ hd0 hW hS hls hL g2) (fun h => kf h d H locs ls l0 _ hd0 hW hS hls hL g2)
theorem g_if_ne (C : Cx K l D ad dA z0 tt cc own nL R) {x : Int32} {off : Int} {tgt : Nat} (hd : decode cc pc = .ok (.ifCond .ne off, 3)) (ht : (pc : Int) + off = (tgt : Int)) (kt : ¬ x = 0 → K σ φ tgt lv st) (kf : x = 0 → K σ φ (pc + 3) lv st) : K σ φ pc lv (.int x :: st) := by
  obtain ⟨p, e, s, m, args, below, meth, c, Q, cells, slots, rfl, hx, hb, hml, hown, hts, hE, hcl, hsl⟩ := C
  intro d H locs ls l0 st0 hd0 hW hS hls hL hs
  obtain ⟨t1, rfl, g1⟩ := alS_int hs
  exact lv_if_ne hx hb hd ht (fun h => kt h d H locs ls l0 _ hd0 hW hS hls hL g1) (fun h => kf h d H locs ls l0 _ hd0 hW hS hls hL g1)
theorem g_icmp_ne (C : Cx K l D ad dA z0 tt cc own nL R) {x y : Int32} {off : Int} {tgt : Nat} (hd : decode cc pc = .ok (.if_icmp .ne off, 3)) (ht : (pc : Int) + off = (tgt : Int)) (kt : ¬ x = y → K σ φ tgt lv st) (kf : x = y → K σ φ (pc + 3) lv st) : K σ φ pc lv (.int y :: .int x :: st) := by
  obtain ⟨p, e, s, m, args, below, meth, c, Q, cells, slots, rfl, hx, hb, hml, hown, hts, hE, hcl, hsl⟩ := C
  intro d H locs ls l0 st0 hd0 hW hS hls hL hs
  obtain ⟨t1, rfl, g1⟩ := alS_int hs
  obtain ⟨t2, rfl, g2⟩ := alS_int g1
  exact lv_icmp_ne hx hb hd ht (fun h => kt h d H locs ls l0 _ hd0 hW hS hls hL g2) (fun h => kf h d H locs ls l0 _ hd0 hW hS hls hL g2)
theorem g_goto (C : Cx K l D ad dA z0 tt cc own nL R) {off : Int} {tgt : Nat} (hd : decode cc pc = .ok (.goto off, 3)) (ht : (pc : Int) + off = (tgt : Int)) (k : K σ φ tgt lv st) : K σ φ pc lv st := by
  obtain ⟨p, e, s, m, args, below, meth, c, Q, cells, slots, rfl, hx, hb, hml, hown, hts, hE, hcl, hsl⟩ := C
  intro d H locs ls l0 st0 hd0 hW hS hls hL hs
  exact lv_goto hx hb hd ht (k d H locs ls l0 _ hd0 hW hS hls hL hs)
theorem g_tableIn (C : Cx K l D ad dA z0 tt cc own nL R) {dflt lo hi : Int} {offs : Array Int} {len : Nat} {x : Int32} {off : Int} {tgt : Nat} (hd : decode cc pc = .ok (.tableswitch dflt lo hi offs, len)) (h1 : ¬ x.toInt < lo) (h2 : ¬ hi < x.toInt) (ho : offs[(x.toInt - lo).toNat]? = some off) (ht : (pc : Int) + off = (tgt : Int)) (k : K σ φ tgt lv st) : K σ φ pc lv (.int x :: st) := by
  obtain ⟨p, e, s, m, args, below, meth, c, Q, cells, slots, rfl, hx, hb, hml, hown, hts, hE, hcl, hsl⟩ := C
  intro d H locs ls l0 st0 hd0 hW hS hls hL hs
  obtain ⟨t1, rfl, g1⟩ := alS_int hs
  exact lv_tableIn hx hb hd h1 h2 ho ht (k d H locs ls l0 _ hd0 hW hS hls hL g1)
theorem g_tableOut (C : Cx K l D ad dA z0 tt cc own nL R) {dflt lo hi : Int} {offs : Array Int} {len : Nat} {x : Int32} {tgt : Nat} (hd : decode cc pc = .ok (.tableswitch dflt lo hi offs, len)) (h : x.toInt < lo ∨ hi < x.toInt) (ht : (pc : Int) + dflt = (tgt : Int)) (k : K σ φ tgt lv st) : K σ φ pc lv (.int x :: st) := by
  obtain ⟨p, e, s, m, args, below, meth, c, Q, cells, slots, rfl, hx, hb, hml, hown, hts, hE, hcl, hsl⟩ := C
  intro d H locs ls l0 st0 hd0 hW hS hls hL hs
  obtain ⟨t1, rfl, g1⟩ := alS_int hs
  exact lv_tableOut hx hb hd h ht (k d H locs ls l0 _ hd0 hW hS hls hL g1)
theorem g_get (C : Cx K l D ad dA z0 tt cc own nL R) {Cn ref : String} {T : u_T} {N ci index a : Nat} (hin : ∀ w ∈ u_ws Cn T N, w ∈ lw_all) (q0 : Nat) {fs : List Value} (he : ∀ φ0 : Fl, (wJ ad dA σ φ0)[q0]? = some (a, .inr (ci, fs))) (hc : vwCl[ci]? = some (Cn, T, N)) (k : Nat) (hk : k < N) (hlink : Cond.fieldLink own index ref (T k).2.1 (T k).2.2.1 ∈ lw_all) (hsame : ref = (T k).1) {v : Value} (hv : fs[k]? = some v) (hd : decode cc pc = .ok (.getfield index, 3)) (k2 : K σ φ (pc + 3) lv (v :: st)) : K σ φ pc lv (.ref a :: st) := by
  obtain ⟨p, e, s, m, args, below, meth, c, Q, cells, slots, rfl, hx, hb, hml, hown, hts, hE, hcl, hsl⟩ := C
  intro d H locs ls l0 st0 hd0 hW hS hls hL hs
  obtain ⟨t1, rfl, g1⟩ := alS_ref hs
  obtain ⟨φ0, hφ, hP⟩ := hW
  subst hsame
  exact va_get (s := s.setDrawn d) (D := D) (ci := ci) hx hb (dr_words hts d) hin hown hE.1 hP q0 (he φ0) hc k hk (dr_words hts d _ hlink) (fun _ h => h) hv hd (k2 d H locs ls l0 _ hd0 ⟨φ0, hφ, hP⟩ hS hls hL ⟨alV_rf v, g1⟩)
theorem g_put (C : Cx K l D ad dA z0 tt cc own nL R) {Cn ref : String} {T : u_T} {N ci index a : Nat} (hin : ∀ w ∈ u_ws Cn T N, w ∈ lw_all) (ty0 : Nat → FieldType) (hty : ∀ k, k < N → parseFieldDescriptor (T k).2.2.1 = some (ty0 k)) (hnm : ∀ a, a < N → ∀ b, b < N → a ≠ b → (T a).2.1 ≠ (T b).2.1) (q0 : Nat) {fs : List Value} (he : ∀ φ0 : Fl, (wJ ad dA σ φ0)[q0]? = some (a, .inr (ci, fs))) (hc : vwCl[ci]? = some (Cn, T, N)) (k : Nat) (hk : k < N) (hlink : Cond.fieldLink own index ref (T k).2.1 (T k).2.2.1 ∈ lw_all) (hsame : ref = (T k).1) (hfin : (T k).2.2.2 = false) {ty : FieldType} {x : Int32} (hd2 : parseFieldDescriptor (T k).2.2.1 = some ty) (hn : narrow ty (.int x) = .int x) (hfit : fits ty (.int x) = true) (hl : k < fs.length) {σ1 : Sg} (he2 : ∀ φ0 : Fl, (wJ ad dA σ φ0).set q0 (a, .inr (ci, fs.set k (.int x))) = wJ ad dA σ1 φ0) (hd : decode cc pc = .ok (.putfield index, 3)) (k2 : K σ1 φ (pc + 3) lv st) : K σ φ pc lv (.int x :: .ref a :: st) := by
  obtain ⟨p, e, s, m, args, below, meth, c, Q, cells, slots, rfl, hx, hb, hml, hown, hts, hE, hcl, hsl⟩ := C
  intro d H locs ls l0 st0 hd0 hW hS hls hL hs
  obtain ⟨t1, rfl, g1⟩ := alS_int hs
  obtain ⟨t2, rfl, g2⟩ := alS_ref g1
  obtain ⟨φ0, hφ, hP⟩ := hW
  subst hsame
  refine va_put (s := s.setDrawn d) (D := D) (ci := ci) (ty := ty) hx hb (dr_words hts d) hin ty0 hty hnm hown hE.1 hP (hE.2.2.2.2 σ φ0) hS q0 (he φ0) hc k hk (dr_words hts d _ hlink) (fun _ h => h) hfin hd2 hn hfit hl hd (fun H1 locs1 hP1 hD1 hS1 => ?_)
  rw [he2] at hP1
  exact k2 d H1 locs1 ls l0 _ hd0 ⟨φ0, hφ, hP1⟩ hS1 hls hL g2
theorem g_getN (C : Cx K l D ad dA z0 tt cc own nL R) {Cn ref : String} {host : String} {T : u_T} {N ci index a : Nat} (hin : ∀ w ∈ u_ws Cn T N, w ∈ lw_all) (q0 : Nat) {fs : List Value} (he : ∀ φ0 : Fl, (wJ ad dA σ φ0)[q0]? = some (a, .inr (ci, fs))) (hc : vwCl[ci]? = some (Cn, T, N)) (k : Nat) (hk : k < N) (hlink : Cond.fieldLinkNest own index ref (T k).2.1 (T k).2.2.1 host ∈ lw_nest) (hsame : ref = (T k).1) {v : Value} (hv : fs[k]? = some v) (hd : decode cc pc = .ok (.getfield index, 3)) (k2 : K σ φ (pc + 3) lv (v :: st)) : K σ φ pc lv (.ref a :: st) := by
  obtain ⟨p, e, s, m, args, below, meth, c, Q, cells, slots, rfl, hx, hb, hml, hown, hts, hE, hcl, hsl⟩ := C
  intro d H locs ls l0 st0 hd0 hW hS hls hL hs
  obtain ⟨t1, rfl, g1⟩ := alS_ref hs
  obtain ⟨φ0, hφ, hP⟩ := hW
  subst hsame
  exact va_getN (s := s.setDrawn d) (D := D) (ci := ci) hx hb (dr_words hts d) hin hown hE.1 hP q0 (he φ0) hc k hk (nest_at hE.2.1 hlink rfl d) (fun _ h => h) hv hd (k2 d H locs ls l0 _ hd0 ⟨φ0, hφ, hP⟩ hS hls hL ⟨alV_rf v, g1⟩)
theorem g_putN (C : Cx K l D ad dA z0 tt cc own nL R) {Cn ref : String} {host : String} {T : u_T} {N ci index a : Nat} (hin : ∀ w ∈ u_ws Cn T N, w ∈ lw_all) (ty0 : Nat → FieldType) (hty : ∀ k, k < N → parseFieldDescriptor (T k).2.2.1 = some (ty0 k)) (hnm : ∀ a, a < N → ∀ b, b < N → a ≠ b → (T a).2.1 ≠ (T b).2.1) (q0 : Nat) {fs : List Value} (he : ∀ φ0 : Fl, (wJ ad dA σ φ0)[q0]? = some (a, .inr (ci, fs))) (hc : vwCl[ci]? = some (Cn, T, N)) (k : Nat) (hk : k < N) (hlink : Cond.fieldLinkNest own index ref (T k).2.1 (T k).2.2.1 host ∈ lw_nest) (hsame : ref = (T k).1) (hfin : (T k).2.2.2 = false) {ty : FieldType} {x : Int32} (hd2 : parseFieldDescriptor (T k).2.2.1 = some ty) (hn : narrow ty (.int x) = .int x) (hfit : fits ty (.int x) = true) (hl : k < fs.length) {σ1 : Sg} (he2 : ∀ φ0 : Fl, (wJ ad dA σ φ0).set q0 (a, .inr (ci, fs.set k (.int x))) = wJ ad dA σ1 φ0) (hd : decode cc pc = .ok (.putfield index, 3)) (k2 : K σ1 φ (pc + 3) lv st) : K σ φ pc lv (.int x :: .ref a :: st) := by
  obtain ⟨p, e, s, m, args, below, meth, c, Q, cells, slots, rfl, hx, hb, hml, hown, hts, hE, hcl, hsl⟩ := C
  intro d H locs ls l0 st0 hd0 hW hS hls hL hs
  obtain ⟨t1, rfl, g1⟩ := alS_int hs
  obtain ⟨t2, rfl, g2⟩ := alS_ref g1
  obtain ⟨φ0, hφ, hP⟩ := hW
  subst hsame
  refine va_putN (s := s.setDrawn d) (D := D) (ci := ci) (ty := ty) hx hb (dr_words hts d) hin ty0 hty hnm hown hE.1 hP (hE.2.2.2.2 σ φ0) hS q0 (he φ0) hc k hk (nest_at hE.2.1 hlink rfl d) (fun _ h => h) hfin hd2 hn hfit hl hd (fun H1 locs1 hP1 hD1 hS1 => ?_)
  rw [he2] at hP1
  exact k2 d H1 locs1 ls l0 _ hd0 ⟨φ0, hφ, hP1⟩ hS1 hls hL g2
theorem g_iald (C : Cx K l D ad dA z0 tt cc own nL R) {a n : Nat} {f : Nat → Int32} (q0 : Nat) (he : ∀ φ0 : Fl, (wJ ad dA σ φ0)[q0]? = some (a, .inl (dA 0, n, .inl f))) {i : Int32} (hin : vp_in i n) (hd : decode cc pc = .ok (.iaload, 1)) (k : K σ φ (pc + 1) lv (.int (f i.toNatClampNeg) :: st)) : K σ φ pc lv (.int i :: .ref a :: st) := by
  obtain ⟨p, e, s, m, args, below, meth, c, Q, cells, slots, rfl, hx, hb, hml, hown, hts, hE, hcl, hsl⟩ := C
  intro d H locs ls l0 st0 hd0 hW hS hls hL hs
  obtain ⟨t1, rfl, g1⟩ := alS_int hs
  obtain ⟨t2, rfl, g2⟩ := alS_ref g1
  obtain ⟨φ0, hφ, hP⟩ := hW
  exact va_iald (s := s.setDrawn d) hx hb hE.1 hP q0 0 (he φ0) rfl hin hd (k d H locs ls l0 _ hd0 ⟨φ0, hφ, hP⟩ hS hls hL ⟨rfl, g2⟩)
theorem g_zald (C : Cx K l D ad dA z0 tt cc own nL R) {a n : Nat} {f : Nat → Int32} (q0 : Nat) (he : ∀ φ0 : Fl, (wJ ad dA σ φ0)[q0]? = some (a, .inl (dA 1, n, .inl f))) {i : Int32} (hin : vp_in i n) (hd : decode cc pc = .ok (.baload, 1)) (k : K σ φ (pc + 1) lv (.int (f i.toNatClampNeg) :: st)) : K σ φ pc lv (.int i :: .ref a :: st) := by
  obtain ⟨p, e, s, m, args, below, meth, c, Q, cells, slots, rfl, hx, hb, hml, hown, hts, hE, hcl, hsl⟩ := C
  intro d H locs ls l0 st0 hd0 hW hS hls hL hs
  obtain ⟨t1, rfl, g1⟩ := alS_int hs
  obtain ⟨t2, rfl, g2⟩ := alS_ref g1
  obtain ⟨φ0, hφ, hP⟩ := hW
  exact va_zald (s := s.setDrawn d) hx hb hE.1 hP q0 1 (he φ0) rfl hin hd (k d H locs ls l0 _ hd0 ⟨φ0, hφ, hP⟩ hS hls hL ⟨rfl, g2⟩)
theorem g_cald (C : Cx K l D ad dA z0 tt cc own nL R) {a n : Nat} {f : Nat → Int32} (q0 : Nat) (he : ∀ φ0 : Fl, (wJ ad dA σ φ0)[q0]? = some (a, .inl (dA 2, n, .inl f))) {i : Int32} (hin : vp_in i n) (hd : decode cc pc = .ok (.caload, 1)) (k : K σ φ (pc + 1) lv (.int (f i.toNatClampNeg) :: st)) : K σ φ pc lv (.int i :: .ref a :: st) := by
  obtain ⟨p, e, s, m, args, below, meth, c, Q, cells, slots, rfl, hx, hb, hml, hown, hts, hE, hcl, hsl⟩ := C
  intro d H locs ls l0 st0 hd0 hW hS hls hL hs
  obtain ⟨t1, rfl, g1⟩ := alS_int hs
  obtain ⟨t2, rfl, g2⟩ := alS_ref g1
  obtain ⟨φ0, hφ, hP⟩ := hW
  exact va_cald (s := s.setDrawn d) hx hb hE.1 hP q0 2 (he φ0) rfl hin hd (k d H locs ls l0 _ hd0 ⟨φ0, hφ, hP⟩ hS hls hL ⟨rfl, g2⟩)
theorem g_fald (C : Cx K l D ad dA z0 tt cc own nL R) {a n : Nat} (q0 : Nat) (he : ∀ φ0 : Fl, (wJ ad dA σ φ0)[q0]? = some (a, .inl (dA 3, n, .inr (.inr (.inl (φ0 q0)))))) {i : Int32} (hin : vp_in i n) (hd : decode cc pc = .ok (.faload, 1)) (k : K σ φ (pc + 1) lv (.float (φ q0 i.toNatClampNeg) :: st)) : K σ φ pc lv (.int i :: .ref a :: st) := by
  obtain ⟨p, e, s, m, args, below, meth, c, Q, cells, slots, rfl, hx, hb, hml, hown, hts, hE, hcl, hsl⟩ := C
  intro d H locs ls l0 st0 hd0 hW hS hls hL hs
  obtain ⟨t1, rfl, g1⟩ := alS_int hs
  obtain ⟨t2, rfl, g2⟩ := alS_ref g1
  obtain ⟨φ0, hφ, hP⟩ := hW
  exact va_fald (s := s.setDrawn d) hx hb hE.1 hP q0 3 (he φ0) rfl hin hd (k d H locs ls l0 _ hd0 ⟨φ0, hφ, hP⟩ hS hls hL ⟨⟨_, rfl, hφ q0 _⟩, g2⟩)
theorem g_iast (C : Cx K l D ad dA z0 tt cc own nL R) {a n : Nat} {f : Nat → Int32} (q0 : Nat) (he : ∀ φ0 : Fl, (wJ ad dA σ φ0)[q0]? = some (a, .inl (dA 0, n, .inl f))) {i x : Int32} (hin : vp_in i n) {σ1 : Sg} (he2 : ∀ φ0 : Fl, (wJ ad dA σ φ0).set q0 (a, .inl (dA 0, n, .inl (upd f i.toNatClampNeg x))) = wJ ad dA σ1 φ0) (hd : decode cc pc = .ok (.iastore, 1)) (k : K σ1 φ (pc + 1) lv st) : K σ φ pc lv (.int x :: .int i :: .ref a :: st) := by
  obtain ⟨p, e, s, m, args, below, meth, c, Q, cells, slots, rfl, hx, hb, hml, hown, hts, hE, hcl, hsl⟩ := C
  intro d H locs ls l0 st0 hd0 hW hS hls hL hs
  obtain ⟨t1, rfl, g1⟩ := alS_int hs
  obtain ⟨t2, rfl, g2⟩ := alS_int g1
  obtain ⟨t3, rfl, g3⟩ := alS_ref g2
  obtain ⟨φ0, hφ, hP⟩ := hW
  refine va_iast (s := s.setDrawn d) hx hb hE.1 hP (hE.2.2.2.2 σ φ0) hS q0 0 (he φ0) rfl hin hd (fun H1 locs1 hP1 hD1 hS1 => ?_)
  rw [he2] at hP1
  exact k d H1 locs1 ls l0 _ hd0 ⟨φ0, hφ, hP1⟩ hS1 hls hL g3
theorem g_zast (C : Cx K l D ad dA z0 tt cc own nL R) {a n : Nat} {f : Nat → Int32} (q0 : Nat) (he : ∀ φ0 : Fl, (wJ ad dA σ φ0)[q0]? = some (a, .inl (dA 1, n, .inl f))) {i x : Int32} (hin : vp_in i n) {σ1 : Sg} (he2 : ∀ φ0 : Fl, (wJ ad dA σ φ0).set q0 (a, .inl (dA 1, n, .inl (upd f i.toNatClampNeg (vp_nar .boolean x)))) = wJ ad dA σ1 φ0) (hd : decode cc pc = .ok (.bastore, 1)) (k : K σ1 φ (pc + 1) lv st) : K σ φ pc lv (.int x :: .int i :: .ref a :: st) := by
  obtain ⟨p, e, s, m, args, below, meth, c, Q, cells, slots, rfl, hx, hb, hml, hown, hts, hE, hcl, hsl⟩ := C
  intro d H locs ls l0 st0 hd0 hW hS hls hL hs
  obtain ⟨t1, rfl, g1⟩ := alS_int hs
  obtain ⟨t2, rfl, g2⟩ := alS_int g1
  obtain ⟨t3, rfl, g3⟩ := alS_ref g2
  obtain ⟨φ0, hφ, hP⟩ := hW
  refine va_zast (s := s.setDrawn d) hx hb hE.1 hP (hE.2.2.2.2 σ φ0) hS q0 1 (he φ0) rfl hin hd (fun H1 locs1 hP1 hD1 hS1 => ?_)
  rw [he2] at hP1
  exact k d H1 locs1 ls l0 _ hd0 ⟨φ0, hφ, hP1⟩ hS1 hls hL g3
theorem g_cast (C : Cx K l D ad dA z0 tt cc own nL R) {a n : Nat} {f : Nat → Int32} (q0 : Nat) (he : ∀ φ0 : Fl, (wJ ad dA σ φ0)[q0]? = some (a, .inl (dA 2, n, .inl f))) {i x : Int32} (hin : vp_in i n) {σ1 : Sg} (he2 : ∀ φ0 : Fl, (wJ ad dA σ φ0).set q0 (a, .inl (dA 2, n, .inl (upd f i.toNatClampNeg (vp_nar .char x)))) = wJ ad dA σ1 φ0) (hd : decode cc pc = .ok (.castore, 1)) (k : K σ1 φ (pc + 1) lv st) : K σ φ pc lv (.int x :: .int i :: .ref a :: st) := by
  obtain ⟨p, e, s, m, args, below, meth, c, Q, cells, slots, rfl, hx, hb, hml, hown, hts, hE, hcl, hsl⟩ := C
  intro d H locs ls l0 st0 hd0 hW hS hls hL hs
  obtain ⟨t1, rfl, g1⟩ := alS_int hs
  obtain ⟨t2, rfl, g2⟩ := alS_int g1
  obtain ⟨t3, rfl, g3⟩ := alS_ref g2
  obtain ⟨φ0, hφ, hP⟩ := hW
  refine va_cast (s := s.setDrawn d) hx hb hE.1 hP (hE.2.2.2.2 σ φ0) hS q0 2 (he φ0) rfl hin hd (fun H1 locs1 hP1 hD1 hS1 => ?_)
  rw [he2] at hP1
  exact k d H1 locs1 ls l0 _ hd0 ⟨φ0, hφ, hP1⟩ hS1 hls hL g3
theorem g_fast (C : Cx K l D ad dA z0 tt cc own nL R) {a n : Nat} (q0 : Nat) (he : ∀ φ0 : Fl, (wJ ad dA σ φ0)[q0]? = some (a, .inl (dA 3, n, .inr (.inr (.inl (φ0 q0)))))) {i : Int32} {x : UInt32} (hin : vp_in i n) (he2 : ∀ (φ0 : Fl) (g : Nat → UInt32), (wJ ad dA σ φ0).set q0 (a, .inl (dA 3, n, .inr (.inr (.inl g)))) = wJ ad dA σ (va_up φ0 q0 g)) (hd : decode cc pc = .ok (.fastore, 1)) (k : K σ (va_up φ q0 (vf_upd (φ q0) i.toNatClampNeg x)) (pc + 1) lv st) : K σ φ pc lv (.float x :: .int i :: .ref a :: st) := by
  obtain ⟨p, e, s, m, args, below, meth, c, Q, cells, slots, rfl, hx, hb, hml, hown, hts, hE, hcl, hsl⟩ := C
  intro d H locs ls l0 st0 hd0 hW hS hls hL hs
  obtain ⟨x1, t1, rfl, e1, g1⟩ := alS_flt hs
  obtain ⟨t2, rfl, g2⟩ := alS_int g1
  obtain ⟨t3, rfl, g3⟩ := alS_ref g2
  obtain ⟨φ0, hφ, hP⟩ := hW
  refine va_fast (s := s.setDrawn d) hx hb hE.1 hP (hE.2.2.2.2 σ φ0) hS q0 3 (he φ0) rfl hin hd (fun H1 locs1 hP1 hD1 hS1 => ?_)
  rw [he2] at hP1
  exact k d H1 locs1 ls l0 _ hd0 ⟨_, alF_up hφ _ _ e1, hP1⟩ hS1 hls hL g3
theorem g_aald_rows (C : Cx K l D ad dA z0 tt cc own nL R) {i : Int32} (hin : vp_in i 8) (hd : decode cc pc = .ok (.aaload, 1)) (k : K σ φ (pc + 1) lv (.ref (ad (17 + i.toNatClampNeg)) :: st)) : K σ φ pc lv (.int i :: .ref (ad 16) :: st) := by
  obtain ⟨p, e, s, m, args, below, meth, c, Q, cells, slots, rfl, hx, hb, hml, hown, hts, hE, hcl, hsl⟩ := C
  intro d H locs ls l0 st0 hd0 hW hS hls hL hs
  obtain ⟨t1, rfl, g1⟩ := alS_int hs
  obtain ⟨t2, rfl, g2⟩ := alS_ref g1
  obtain ⟨φ0, hφ, hP⟩ := hW
  have hlt : i.toNatClampNeg < 8 := Nat.not_le.mp fun q => hin (Or.inr q)
  have hv : va_rf (if i.toNatClampNeg < 8 then some (ad (17 + i.toNatClampNeg)) else none) = .ref (ad (17 + i.toNatClampNeg)) := by rw [if_pos hlt]; rfl
  refine W.aald (s := s.setDrawn d) (v := va_rf (if i.toNatClampNeg < 8 then some (ad (17 + i.toNatClampNeg)) else none)) (ty := .array .int) hx hb (hP 16 _ (at_16 ad dA σ φ0)) ((hE.1.2 4 _ rfl).1 8 (fun j => va_rf (if j < 8 then some (ad (17 + j)) else none))) rfl (fun q => by cases q) (by show ¬ (i < 0 ∨ (arrV _ _ _).slots.size ≤ _); rw [arrV_size]; exact hin) (by show (arrV _ _ _).slots[_]? = _; rw [arrV_read _ _ hlt]) rfl rfl hd ?_
  rw [hv]
  exact k d H locs ls l0 _ hd0 ⟨φ0, hφ, hP⟩ hS hls hL ⟨rfl, g2⟩
theorem g_gets (C : Cx K l D ad dA z0 tt cc own nL R) {C0 n0 d0 ref host : String} {v : Value} {index : Nat} (hZ : ∀ (s : State), STz tt (fun q => z0 ≤ q) s s.heap → va_Z C0 n0 d0 v (fun q => z0 ≤ q) s s.heap) (hlink : Cond.fieldLink own index ref n0 d0 ∈ lw_all) (hsame : ref = C0) (hd : decode cc pc = .ok (.getstatic index, 3)) (k : K σ φ (pc + 3) lv (v :: st)) : K σ φ pc lv st := by
  obtain ⟨p, e, s, m, args, below, meth, c, Q, cells, slots, rfl, hx, hb, hml, hown, hts, hE, hcl, hsl⟩ := C
  intro d H locs ls l0 st0 hd0 hW hS hls hL hs
  subst hsame
  exact va_gets (s := s.setDrawn d) hx hb (hZ (s.setDrawn d) (hE.drawn d).2.2.1) hS hown (dr_words hts d _ hlink) (fun _ h => h) hd (k d H locs ls l0 _ hd0 hW hS hls hL ⟨alV_rf v, hs⟩)
theorem g_ti (C : Cx K l D ad dA z0 tt cc own nL R) {t N : Nat} {f : Nat → Int32} (hT : ∀ (s : State), STz tt (fun q => z0 ≤ q) s s.heap → va_T .int t N (fun j => .int (f j)) (fun q => z0 ≤ q) s s.heap) {i : Int32} (hin : vp_in i N) (hd : decode cc pc = .ok (.iaload, 1)) (k : K σ φ (pc + 1) lv (.int (f i.toNatClampNeg) :: st)) : K σ φ pc lv (.int i :: .ref t :: st) := by
  obtain ⟨p, e, s, m, args, below, meth, c, Q, cells, slots, rfl, hx, hb, hml, hown, hts, hE, hcl, hsl⟩ := C
  intro d H locs ls l0 st0 hd0 hW hS hls hL hs
  obtain ⟨t1, rfl, g1⟩ := alS_int hs
  obtain ⟨t2, rfl, g2⟩ := alS_ref g1
  exact va_ti (s := s.setDrawn d) hx hb (hT (s.setDrawn d) (hE.drawn d).2.2.1) hS hin rfl hd (k d H locs ls l0 _ hd0 hW hS hls hL ⟨rfl, g2⟩)
theorem g_tc (C : Cx K l D ad dA z0 tt cc own nL R) {t N : Nat} {f : Nat → Int32} (hT : ∀ (s : State), STz tt (fun q => z0 ≤ q) s s.heap → va_T .char t N (fun j => .int (f j)) (fun q => z0 ≤ q) s s.heap) {i : Int32} (hin : vp_in i N) (hd : decode cc pc = .ok (.caload, 1)) (k : K σ φ (pc + 1) lv (.int (f i.toNatClampNeg) :: st)) : K σ φ pc lv (.int i :: .ref t :: st) := by
  obtain ⟨p, e, s, m, args, below, meth, c, Q, cells, slots, rfl, hx, hb, hml, hown, hts, hE, hcl, hsl⟩ := C
  intro d H locs ls l0 st0 hd0 hW hS hls hL hs
  obtain ⟨t1, rfl, g1⟩ := alS_int hs
  obtain ⟨t2, rfl, g2⟩ := alS_ref g1
  exact va_tc (s := s.setDrawn d) hx hb (hT (s.setDrawn d) (hE.drawn d).2.2.1) hS hin rfl hd (k d H locs ls l0 _ hd0 hW hS hls hL ⟨rfl, g2⟩)
theorem g_tlen (C : Cx K l D ad dA z0 tt cc own nL R) {t N : Nat} {ty : FieldType} {f : Nat → Int32} (hT : ∀ (s : State), STz tt (fun q => z0 ≤ q) s s.heap → va_T ty t N (fun j => .int (f j)) (fun q => z0 ≤ q) s s.heap) {v : Int32} (hv : Int32.ofNat N = v) (hd : decode cc pc = .ok (.arraylength, 1)) (k : K σ φ (pc + 1) lv (.int v :: st)) : K σ φ pc lv (.ref t :: st) := by
  obtain ⟨p, e, s, m, args, below, meth, c, Q, cells, slots, rfl, hx, hb, hml, hown, hts, hE, hcl, hsl⟩ := C
  intro d H locs ls l0 st0 hd0 hW hS hls hL hs
  obtain ⟨t1, rfl, g1⟩ := alS_ref hs
  exact va_tlen (s := s.setDrawn d) hx hb (hT (s.setDrawn d) (hE.drawn d).2.2.1) hS hv hd (k d H locs ls l0 _ hd0 hW hS hls hL ⟨rfl, g1⟩)
theorem g_alen (C : Cx K l D ad dA z0 tt cc own nL R) {a n : Nat} {cA : ClassId} {f : Nat → Int32} (q0 t0 : Nat) {ty : FieldType} (he : ∀ φ0 : Fl, (wJ ad dA σ φ0)[q0]? = some (a, .inl (cA, n, .inl f))) (ht0 : (tyA dA)[t0]? = some (cA, ty)) {v : Int32} (hv : Int32.ofNat n = v) (hd : decode cc pc = .ok (.arraylength, 1)) (k : K σ φ (pc + 1) lv (.int v :: st)) : K σ φ pc lv (.ref a :: st) := by
  obtain ⟨p, e, s, m, args, below, meth, c, Q, cells, slots, rfl, hx, hb, hml, hown, hts, hE, hcl, hsl⟩ := C
  intro d H locs ls l0 st0 hd0 hW hS hls hL hs
  obtain ⟨t1, rfl, g1⟩ := alS_ref hs
  obtain ⟨φ0, hφ, hP⟩ := hW
  exact va_alen (s := s.setDrawn d) hx hb hE.1 hP q0 t0 (he φ0) ht0 hv hd (k d H locs ls l0 _ hd0 ⟨φ0, hφ, hP⟩ hS hls hL ⟨rfl, g1⟩)
theorem g_abs (C : Cx K l D ad dA z0 tt cc own nL R) {index : Nat} (m1 : Cond.methodLink own index Lib.Math.abs.name ∈ lw_all) (m2 : Cond.static Lib.Math.abs.name ∈ lw_all) (m3 : Cond.initialized "java/lang/Math" ∈ lw_all) (m4 : Cond.code Lib.Math.abs.name Lib.Math.abs.code 1 (some .int) ∈ lw_all) (hfr : 1 ≤ R.frames) (hlo : (st.map fun v => v.category).sum + 13 ≤ R.locals) {x : Int32} (hd : decode cc pc = .ok (.invokestatic index, 3)) (k : K σ φ (pc + 3) lv (.int (if 0 ≤ x then x else 0 - x) :: st)) : K σ φ pc lv (.int x :: st) := by
  obtain ⟨p, e, s, m, args, below, meth, c, Q, cells, slots, rfl, hx, hb, hml, hown, hts, hE, hcl, hsl⟩ := C
  intro d H locs ls l0 st0 hd0 hW hS hls hL hs
  obtain ⟨t1, rfl, g1⟩ := alS_int hs
  exact va_mabs (s := s.setDrawn d) hx hb (hml.trans hls.1.symm) hown (dr_words hts d _ m1) (dr_words hts d _ m2) (dr_words hts d _ m3) (dr_words hts d _ m4) hfr (by rw [alS_cat g1]; exact hlo) hcl hsl hd (k d H locs ls l0 _ hd0 hW hS hls hL ⟨rfl, g1⟩)
theorem g_copyi (C : Cx K l D ad dA z0 tt cc own nL R) {index a0 a n0 n1 : Nat} {f g : Nat → Int32} (m1 : Cond.methodLink own index arraycopyName ∈ lw_all) (m2 : Cond.native arraycopyName ∈ lw_all) (m3 : Cond.static arraycopyName ∈ lw_all) (m4 : Cond.initialized "java/lang/System" ∈ lw_all) (q0 q1 : Nat) (he0 : ∀ φ0 : Fl, (wJ ad dA σ φ0)[q0]? = some (a0, .inl (dA 0, n0, .inl f))) (he1 : ∀ φ0 : Fl, (wJ ad dA σ φ0)[q1]? = some (a, .inl (dA 0, n1, .inl g)))
    {sp dp n : Int32} (h1 : ¬ sp < 0) (h2 : ¬ dp < 0) (h3 : ¬ n < 0) (h4 : sp.toNatClampNeg + n.toNatClampNeg ≤ n0) (h5 : dp.toNatClampNeg + n.toNatClampNeg ≤ n1) (hfr : 1 ≤ R.frames) (hlo : (st.map fun v => v.category).sum + (nativeFrameWords "java/lang/System" "arraycopy" 5 + 11) ≤ R.locals) {σ1 : Sg} (he2 : ∀ φ0 : Fl, (wJ ad dA σ φ0).set q1 (a, .inl (dA 0, n1, .inl (va_cpy f g sp.toNatClampNeg dp.toNatClampNeg n.toNatClampNeg))) = wJ ad dA σ1 φ0) (hd : decode cc pc = .ok (.invokestatic index, 3)) (k : K σ1 φ (pc + 3) lv st) : K σ φ pc lv (.int n :: .int dp :: .ref a :: .int sp :: .ref a0 :: st) := by
  obtain ⟨p, e, s, m, args, below, meth, c, Q, cells, slots, rfl, hx, hb, hml, hown, hts, hE, hcl, hsl⟩ := C
  intro d H locs ls l0 st0 hd0 hW hS hls hL hs
  obtain ⟨t1, rfl, g1⟩ := alS_int hs
  obtain ⟨t2, rfl, g2⟩ := alS_int g1
  obtain ⟨t3, rfl, g3⟩ := alS_ref g2
  obtain ⟨t4, rfl, g4⟩ := alS_int g3
  obtain ⟨t5, rfl, g5⟩ := alS_ref g4
  obtain ⟨φ0, hφ, hP⟩ := hW
  refine va_copyi (s := s.setDrawn d) hx hb (hml.trans hls.1.symm) hown (dr_words hts d _ m1) (dr_words hts d _ m2) (dr_words hts d _ m3) (dr_words hts d _ m4) hE.1 hP (hE.2.2.2.2 σ φ0) hS q0 q1 0 0 (he0 φ0) (he1 φ0) rfl rfl rfl h1 h2 h3 h4 h5 (fun i _ => rfl) hfr (by rw [alS_cat g5]; exact hlo) hd (fun H1 locs1 hP1 hD1 hS1 => ?_)
  rw [he2] at hP1
  exact k d H1 locs1 ls l0 _ hd0 ⟨φ0, hφ, hP1⟩ hS1 hls hL g5
end RULES
end
section
/-! calls -/
section CALLS
variable {K : KT} {l : Launch} {D : va_G} {ad : Nat → Nat} {dA : Nat → ClassId} {z0 : Nat} {tt : Nat → Nat} {cc : ByteArray} {own : String} {nL : Nat} {R : Room} {σ : Sg} {φ : Fl} {pc : Nat} {lv : List (Nat × Value)} {st : List Value}
theorem gw_in {w : Cond} (h : w ∈ lw_all) : w ∈ lw_all ∧ ((w.onTables && w.keeps) = true ∨ ∃ ty, w = .arrayClass ty) := ⟨h, good_of_word (List.mem_filter.mp h).2⟩
theorem gw_V {own Cn : String} {idx : Nat} {y : MethodName} {bytes : ByteArray} {maxL : Nat} {ret : Option FieldType} (m1 : Cond.methodLink own idx y ∈ lw_all) (m2 : Cond.instanceMethod y ∈ lw_all) (m3 : Cond.selects Cn y y ∈ lw_all) (m4 : Cond.initialized Cn ∈ lw_all) (m5 : Cond.code y bytes maxL ret ∈ lw_all) : GoodIn lw_all (wsV own idx Cn y (Cond.code y bytes maxL ret :: lw_all)) := by
  intro w hw
  unfold wsV at hw
  rcases List.mem_append.mp hw with h | h
  · simp only [List.mem_cons, List.not_mem_nil, or_false] at h
    rcases h with rfl | rfl | rfl | rfl
    · exact gw_in m1
    · exact gw_in m2
    · exact gw_in m3
    · exact gw_in m4
  · rcases List.mem_cons.mp h with rfl | h
    · exact gw_in m5
    · exact gw_in h
theorem gw_S {own : String} {idx : Nat} {y : MethodName} {bytes : ByteArray} {maxL : Nat} {ret : Option FieldType} (m1 : Cond.methodLink own idx y ∈ lw_all) (m2 : Cond.static y ∈ lw_all) (m3 : Cond.initialized y.cls ∈ lw_all) (m5 : Cond.code y bytes maxL ret ∈ lw_all) : GoodIn lw_all (va_wsS own idx y (Cond.code y bytes maxL ret :: lw_all)) := by
  intro w hw
  unfold va_wsS at hw
  rcases List.mem_append.mp hw with h | h
  · simp only [List.mem_cons, List.not_mem_nil, or_false] at h
    rcases h with rfl | rfl | rfl
    · exact gw_in m1
    · exact gw_in m2
    · exact gw_in m3
  · rcases List.mem_cons.mp h with rfl | h
    · exact gw_in m5
    · exact gw_in h
theorem gw_C {y : MethodName} {bytes : ByteArray} {maxL : Nat} {ret : Option FieldType} (m5 : Cond.code y bytes maxL ret ∈ lw_all) : GoodIn lw_all (Cond.code y bytes maxL ret :: lw_all) := by
  intro w hw
  rcases List.mem_cons.mp hw with rfl | h
  · exact gw_in m5
  · exact gw_in h
/-- behind a call -/
theorem g_run {p : Program} {e : Env} {s : State} {m : MethodId} {args : Array Value} {below : List Frame} {meth : Method} {c : Code} {Q : State → Prop} {cells slots : Nat} {P : Option Value → Sg → Fl → Prop} {d : Drawn} {H : Heap} {locs : List Loc} {ls : Array Slot} {l0 : List (Nat × Value)} {stk t1 : List Value} {a : Array Value}
    (hd0 : s.drawn.sameBut d lw_cs) (hS : va_S (fun q => z0 ≤ q) s.heap H locs) (hls : lv_has ls nL l0) (hL : alL l0 lv) (hs : alS t1 st)
    (hrun : va_RunD lw_cs p l e R (s.setDrawn d) m args below meth c H locs cells slots 0 0 (F0 m pc ls stk) t1 (QcG D ad dA z0 P a) (fun q => z0 ≤ q))
    (kk : ∀ (rv : Option Value) (σ' : Sg) (φ' : Fl), P rv σ' φ' → GK p l e R s m args below meth c Q nL z0 D ad dA cells slots σ' φ' (pc + 3) lv (rv.toList ++ st)) : W p l e R (s.setDrawn d) m args below meth c H locs cells slots Q (F0 m pc ls stk) := by
  intro T hT X
  obtain ⟨v, st₀, t, T', L, d', hd', h0, X', hL', e1, e2, ⟨⟨rv0, rv, σ', φ', hv, ho, hp, hw⟩, hz, hk⟩, stp⟩ := hrun T hT X
  cases hv
  rw [h0] at hz hk
  obtain ⟨t2, a1, b1⟩ := kk rv σ' φ' hp d' T'.heap (locs ++ L) ls l0 _ (hd0.trans hd') (by rw [e1]; exact hw)
    ⟨Nat.le_trans hS.1 (by rw [e1]; exact hz), fun q h1 h2 => by rw [e1, hk q (Nat.lt_of_lt_of_le h1 hS.1) h2]; exact hS.2.1 q h1 h2, fun q hq => by
      rcases List.mem_append.mp hq with h | h
      · exact hS.2.2 q h
      · exact hL' q h⟩ hls hL (alS_app ho hs) T' rfl X'
  exact ⟨t2, stp t2 a1, b1⟩
theorem g_callV (C : Cx K l D ad dA z0 tt cc own nL R) {y : MethodName} {bytes : ByteArray} {maxL idx b n : Nat} {ret : Option FieldType} {rm : Room} {As : List Value} {P : Option Value → Sg → Fl → Prop} {Cn : String} (hM : MC l D ad dA z0 tt y (Cond.code y bytes maxL ret :: lw_all) rm (.ref b :: As) σ φ P) (hn : As.length = n)
    (m1 : Cond.methodLink own idx y ∈ lw_all) (m2 : Cond.instanceMethod y ∈ lw_all) (m3 : Cond.selects Cn y y ∈ lw_all) (m4 : Cond.initialized Cn ∈ lw_all) (m5 : Cond.code y bytes maxL ret ∈ lw_all)
    (hdY : y.cls = Cn ∧ y.cls ≠ "java/lang/invoke/MethodHandle" ∧ y.cls ≠ "java/lang/invoke/VarHandle" ∧ (parseMethodDescriptor y.desc).map (fun d => d.parameters.length) = some n) (hrc : rm.cells = 0) (hrs : rm.slots = 0) (hR : rm.frames + 1 ≤ R.frames ∧ 8 + (maxL + 11) + rm.locals ≤ R.locals)
    (q0 ci : Nat) {fs : List Value} {T : u_T} {N : Nat} (he : ∀ φ0 : Fl, (wJ ad dA σ φ0)[q0]? = some (b, .inr (ci, fs))) (hc : vwCl[ci]? = some (Cn, T, N))
    (hdg : decode cc pc = .ok (.invokevirtual idx, 3)) {stk : List Value} (hstk : stk = As.reverse ++ .ref b :: st) (hroom : (st.map fun v => v.category).sum ≤ 8)
    (kk : ∀ (rv : Option Value) (σ' : Sg) (φ' : Fl), P rv σ' φ' → K σ' φ' (pc + 3) lv (rv.toList ++ st)) : K σ φ pc lv stk := by
  obtain ⟨p, e, s, m, args, below, meth, c, Q, cells, slots, rfl, hx, hb, hml, hown, hts, hE, hcl, hsl⟩ := C
  intro d H locs ls l0 st0 hd0 hW hS hls hL hs
  subst hstk
  obtain ⟨a0, b0, rfl, g1, g2⟩ := alS_split hs
  obtain ⟨t1, rfl, g3⟩ := alS_ref g2
  have ga : alS a0.reverse As := by have := alS_rev g1; rw [List.reverse_reverse] at this; exact this
  obtain ⟨φ0, hφ, hP⟩ := hW
  refine g_run hd0 hS hls hL g3 (va_runV_D (s := s.setDrawn d) (nL := nL) (As := a0.reverse) ⟨hx, hb, hml, hown, dr_words hts d⟩ hM (cwV n (dr_words hts d) (gw_V m1 m2 m3 m4 m5) rfl hrc hrs hdY hR) ⟨PcG.blind, va_recv hE.1 hP hc (he φ0), fun U hU hWm => ⟨⟨.ref b :: a0.reverse, rfl, rfl, ga⟩, (hE.drawn d).calls hS hU hWm, by rw [hU]; exact ⟨φ0, hφ, hP⟩⟩⟩ rfl ((alS_len ga).trans hn) hls.1 (by rw [List.reverse_reverse]) (lv_room (by rw [alS_cat g3]; exact hroom)) hdg ⟨hcl, hsl⟩) kk
theorem g_callS (C : Cx K l D ad dA z0 tt cc own nL R) {y : MethodName} {bytes : ByteArray} {maxL idx n : Nat} {ret : Option FieldType} {rm : Room} {As : List Value} {P : Option Value → Sg → Fl → Prop} (hM : MC l D ad dA z0 tt y (Cond.code y bytes maxL ret :: lw_all) rm As σ φ P) (hn : As.length = n)
    (m1 : Cond.methodLink own idx y ∈ lw_all) (m2 : Cond.static y ∈ lw_all) (m3 : Cond.initialized y.cls ∈ lw_all) (m5 : Cond.code y bytes maxL ret ∈ lw_all)
    (hdY : y.cls ≠ "java/lang/invoke/MethodHandle" ∧ y.cls ≠ "java/lang/invoke/VarHandle" ∧ (parseMethodDescriptor y.desc).map (fun d => d.parameters.length) = some n) (hrc : rm.cells = 0) (hrs : rm.slots = 0) (hR : rm.frames + 1 ≤ R.frames ∧ 8 + (maxL + 11) + rm.locals ≤ R.locals)
    (hdg : decode cc pc = .ok (.invokestatic idx, 3)) {stk : List Value} (hstk : stk = As.reverse ++ st) (hroom : (st.map fun v => v.category).sum ≤ 8)
    (kk : ∀ (rv : Option Value) (σ' : Sg) (φ' : Fl), P rv σ' φ' → K σ' φ' (pc + 3) lv (rv.toList ++ st)) : K σ φ pc lv stk := by
  obtain ⟨p, e, s, m, args, below, meth, c, Q, cells, slots, rfl, hx, hb, hml, hown, hts, hE, hcl, hsl⟩ := C
  intro d H locs ls l0 st0 hd0 hW hS hls hL hs
  subst hstk
  obtain ⟨a0, t1, rfl, g1, g3⟩ := alS_split hs
  have ga : alS a0.reverse As := by have := alS_rev g1; rw [List.reverse_reverse] at this; exact this
  refine g_run hd0 hS hls hL g3 (va_runS_D (s := s.setDrawn d) (nL := nL) (As := a0.reverse) ⟨hx, hb, hml, hown, dr_words hts d⟩ hM (va_cwS n (dr_words hts d) (gw_S m1 m2 m3 m5) rfl hrc hrs hdY hR) ⟨PcG.blind, fun U hU hWm => ⟨⟨a0.reverse, rfl, ga⟩, (hE.drawn d).calls hS hU hWm, by rw [hU]; exact hW⟩⟩ rfl ((alS_len ga).trans hn) hls.1 (by rw [List.reverse_reverse]) (lv_room (by rw [alS_cat g3]; exact hroom)) hdg ⟨hcl, hsl⟩) kk
theorem g_callSN (C : Cx K l D ad dA z0 tt cc own nL R) {y : MethodName} {host : String} {bytes : ByteArray} {maxL idx n : Nat} {ret : Option FieldType} {rm : Room} {As : List Value} {P : Option Value → Sg → Fl → Prop} (hM : MC l D ad dA z0 tt y (Cond.code y bytes maxL ret :: lw_all) rm As σ φ P) (hn : As.length = n)
    (m1 : Cond.methodLinkNest own idx y host ∈ lw_nest) (m2 : Cond.static y ∈ lw_all) (m3 : Cond.initialized y.cls ∈ lw_all) (m5 : Cond.code y bytes maxL ret ∈ lw_all)
    (hdY : y.cls ≠ "java/lang/invoke/MethodHandle" ∧ y.cls ≠ "java/lang/invoke/VarHandle" ∧ (parseMethodDescriptor y.desc).map (fun d => d.parameters.length) = some n) (hrc : rm.cells = 0) (hrs : rm.slots = 0) (hR : rm.frames + 1 ≤ R.frames ∧ 8 + (maxL + 11) + rm.locals ≤ R.locals)
    (hdg : decode cc pc = .ok (.invokestatic idx, 3)) {stk : List Value} (hstk : stk = As.reverse ++ st) (hroom : (st.map fun v => v.category).sum ≤ 8)
    (kk : ∀ (rv : Option Value) (σ' : Sg) (φ' : Fl), P rv σ' φ' → K σ' φ' (pc + 3) lv (rv.toList ++ st)) : K σ φ pc lv stk := by
  obtain ⟨p, e, s, m, args, below, meth, c, Q, cells, slots, rfl, hx, hb, hml, hown, hts, hE, hcl, hsl⟩ := C
  intro d H locs ls l0 st0 hd0 hW hS hls hL hs
  subst hstk
  obtain ⟨a0, t1, rfl, g1, g3⟩ := alS_split hs
  have ga : alS a0.reverse As := by have := alS_rev g1; rw [List.reverse_reverse] at this; exact this
  refine g_run hd0 hS hls hL g3 (va_runSN_D (s := s.setDrawn d) (nL := nL) (As := a0.reverse) ⟨hx, hb, hml, hown, dr_words hts d⟩ hM ⟨va_cnB n (dr_words hts d) (gw_C m5) rfl hrc hrs ((hE.drawn d).2.1 _ m1) (dr_words hts d _ m3) hdY hR, dr_words hts d _ m2, True.intro⟩ ⟨PcG.blind, fun U hU hWm => ⟨⟨a0.reverse, rfl, ga⟩, (hE.drawn d).calls hS hU hWm, by rw [hU]; exact hW⟩⟩ rfl ((alS_len ga).trans hn) hls.1 (by rw [List.reverse_reverse]) (lv_room (by rw [alS_cat g3]; exact hroom)) hdg ⟨hcl, hsl⟩) kk
/-- what comes back is known -/
theorem g_fn {rv : Option Value} {σ1 : Sg} {φ1 : Fl} (k : K σ1 φ1 (pc + 3) lv (rv.toList ++ st)) : ∀ (r : Option Value) (σ' : Sg) (φ' : Fl), Fn rv σ1 φ1 r σ' φ' → K σ' φ' (pc + 3) lv (r.toList ++ st) := by
  rintro r σ' φ' ⟨rfl, rfl, rfl⟩
  exact k
theorem g_fni {r : Int32} {σ1 : Sg} {φ1 : Fl} (k : K σ1 φ1 (pc + 3) lv (.int r :: st)) : ∀ (r' : Option Value) (σ' : Sg) (φ' : Fl), Fn (some (.int r)) σ1 φ1 r' σ' φ' → K σ' φ' (pc + 3) lv (r'.toList ++ st) := g_fn k
theorem g_fnf {r : UInt32} {σ1 : Sg} {φ1 : Fl} (k : K σ1 φ1 (pc + 3) lv (.float r :: st)) : ∀ (r' : Option Value) (σ' : Sg) (φ' : Fl), Fn (some (.float r)) σ1 φ1 r' σ' φ' → K σ' φ' (pc + 3) lv (r'.toList ++ st) := g_fn k
theorem g_fnv {σ1 : Sg} {φ1 : Fl} (k : K σ1 φ1 (pc + 3) lv st) : ∀ (r' : Option Value) (σ' : Sg) (φ' : Fl), Fn none σ1 φ1 r' σ' φ' → K σ' φ' (pc + 3) lv (r'.toList ++ st) := g_fn k
end CALLS
/-! the rules cell by cell -/
section CELLS
variable {K : KT} {l : Launch} {D : va_G} {ad : Nat → Nat} {dA : Nat → ClassId} {z0 : Nat} {tt : Nat → Nat} {cc : ByteArray} {own : String} {nL : Nat} {R : Room} {σ : Sg} {φ : Fl} {pc : Nat} {lv : List (Nat × Value)} {st : List Value}
theorem gg_0_0 (C : Cx K l D ad dA z0 tt cc own nL R) {index : Nat} (hl : Cond.fieldLink own index "CompositeDecoder" "picture" "LCompositeDecoder$Picture;" ∈ lw_all) (hd : decode cc pc = .ok (.getfield index, 3)) (k : K σ φ (pc + 3) lv (.ref (ad 1) :: st)) : K σ φ pc lv (.ref (ad 0) :: st) := g_get C (T := TX10) iu_10 0 (fun f => at_0 ad dA σ f) rfl 0 (by decide) hl rfl rfl hd k
theorem ggN_0_0 (C : Cx K l D ad dA z0 tt cc own nL R) {host : String} {index : Nat} (hl : Cond.fieldLinkNest own index "CompositeDecoder" "picture" "LCompositeDecoder$Picture;" host ∈ lw_nest) (hd : decode cc pc = .ok (.getfield index, 3)) (k : K σ φ (pc + 3) lv (.ref (ad 1) :: st)) : K σ φ pc lv (.ref (ad 0) :: st) := g_getN C (T := TX10) iu_10 0 (fun f => at_0 ad dA σ f) rfl 0 (by decide) hl rfl rfl hd k
theorem gg_0_1 (C : Cx K l D ad dA z0 tt cc own nL R) {index : Nat} (hl : Cond.fieldLink own index "CompositeDecoder" "text" "LCompositeDecoder$BarText;" ∈ lw_all) (hd : decode cc pc = .ok (.getfield index, 3)) (k : K σ φ (pc + 3) lv (.ref (ad 10) :: st)) : K σ φ pc lv (.ref (ad 0) :: st) := g_get C (T := TX10) iu_10 0 (fun f => at_0 ad dA σ f) rfl 1 (by decide) hl rfl rfl hd k
theorem ggN_0_1 (C : Cx K l D ad dA z0 tt cc own nL R) {host : String} {index : Nat} (hl : Cond.fieldLinkNest own index "CompositeDecoder" "text" "LCompositeDecoder$BarText;" host ∈ lw_nest) (hd : decode cc pc = .ok (.getfield index, 3)) (k : K σ φ (pc + 3) lv (.ref (ad 10) :: st)) : K σ φ pc lv (.ref (ad 0) :: st) := g_getN C (T := TX10) iu_10 0 (fun f => at_0 ad dA σ f) rfl 1 (by decide) hl rfl rfl hd k
theorem gg_0_2 (C : Cx K l D ad dA z0 tt cc own nL R) {index : Nat} (hl : Cond.fieldLink own index "CompositeDecoder" "settings" "LCompositeDecoder$Settings;" ∈ lw_all) (hd : decode cc pc = .ok (.getfield index, 3)) (k : K σ φ (pc + 3) lv (.ref (ad 13) :: st)) : K σ φ pc lv (.ref (ad 0) :: st) := g_get C (T := TX10) iu_10 0 (fun f => at_0 ad dA σ f) rfl 2 (by decide) hl rfl rfl hd k
theorem ggN_0_2 (C : Cx K l D ad dA z0 tt cc own nL R) {host : String} {index : Nat} (hl : Cond.fieldLinkNest own index "CompositeDecoder" "settings" "LCompositeDecoder$Settings;" host ∈ lw_nest) (hd : decode cc pc = .ok (.getfield index, 3)) (k : K σ φ (pc + 3) lv (.ref (ad 13) :: st)) : K σ φ pc lv (.ref (ad 0) :: st) := g_getN C (T := TX10) iu_10 0 (fun f => at_0 ad dA σ f) rfl 2 (by decide) hl rfl rfl hd k
theorem gg_0_3 (C : Cx K l D ad dA z0 tt cc own nL R) {index : Nat} (hl : Cond.fieldLink own index "CompositeDecoder" "signal" "LCompositeDecoder$Signal;" ∈ lw_all) (hd : decode cc pc = .ok (.getfield index, 3)) (k : K σ φ (pc + 3) lv (.ref (ad 15) :: st)) : K σ φ pc lv (.ref (ad 0) :: st) := g_get C (T := TX10) iu_10 0 (fun f => at_0 ad dA σ f) rfl 3 (by decide) hl rfl rfl hd k
theorem ggN_0_3 (C : Cx K l D ad dA z0 tt cc own nL R) {host : String} {index : Nat} (hl : Cond.fieldLinkNest own index "CompositeDecoder" "signal" "LCompositeDecoder$Signal;" host ∈ lw_nest) (hd : decode cc pc = .ok (.getfield index, 3)) (k : K σ φ (pc + 3) lv (.ref (ad 15) :: st)) : K σ φ pc lv (.ref (ad 0) :: st) := g_getN C (T := TX10) iu_10 0 (fun f => at_0 ad dA σ f) rfl 3 (by decide) hl rfl rfl hd k
theorem gg_0_4 (C : Cx K l D ad dA z0 tt cc own nL R) {index : Nat} (hl : Cond.fieldLink own index "CompositeDecoder" "finder" "LCompositeDecoder$LineFinder;" ∈ lw_all) (hd : decode cc pc = .ok (.getfield index, 3)) (k : K σ φ (pc + 3) lv (.ref (ad 25) :: st)) : K σ φ pc lv (.ref (ad 0) :: st) := g_get C (T := TX10) iu_10 0 (fun f => at_0 ad dA σ f) rfl 4 (by decide) hl rfl rfl hd k
theorem ggN_0_4 (C : Cx K l D ad dA z0 tt cc own nL R) {host : String} {index : Nat} (hl : Cond.fieldLinkNest own index "CompositeDecoder" "finder" "LCompositeDecoder$LineFinder;" host ∈ lw_nest) (hd : decode cc pc = .ok (.getfield index, 3)) (k : K σ φ (pc + 3) lv (.ref (ad 25) :: st)) : K σ φ pc lv (.ref (ad 0) :: st) := g_getN C (T := TX10) iu_10 0 (fun f => at_0 ad dA σ f) rfl 4 (by decide) hl rfl rfl hd k
theorem gg_0_5 (C : Cx K l D ad dA z0 tt cc own nL R) {index : Nat} (hl : Cond.fieldLink own index "CompositeDecoder" "bursts" "LCompositeDecoder$Bursts;" ∈ lw_all) (hd : decode cc pc = .ok (.getfield index, 3)) (k : K σ φ (pc + 3) lv (.ref (ad 30) :: st)) : K σ φ pc lv (.ref (ad 0) :: st) := g_get C (T := TX10) iu_10 0 (fun f => at_0 ad dA σ f) rfl 5 (by decide) hl rfl rfl hd k
theorem ggN_0_5 (C : Cx K l D ad dA z0 tt cc own nL R) {host : String} {index : Nat} (hl : Cond.fieldLinkNest own index "CompositeDecoder" "bursts" "LCompositeDecoder$Bursts;" host ∈ lw_nest) (hd : decode cc pc = .ok (.getfield index, 3)) (k : K σ φ (pc + 3) lv (.ref (ad 30) :: st)) : K σ φ pc lv (.ref (ad 0) :: st) := g_getN C (T := TX10) iu_10 0 (fun f => at_0 ad dA σ f) rfl 5 (by decide) hl rfl rfl hd k
theorem gg_0_6 (C : Cx K l D ad dA z0 tt cc own nL R) {index : Nat} (hl : Cond.fieldLink own index "CompositeDecoder" "phases" "LCompositeDecoder$PhaseReference;" ∈ lw_all) (hd : decode cc pc = .ok (.getfield index, 3)) (k : K σ φ (pc + 3) lv (.ref (ad 35) :: st)) : K σ φ pc lv (.ref (ad 0) :: st) := g_get C (T := TX10) iu_10 0 (fun f => at_0 ad dA σ f) rfl 6 (by decide) hl rfl rfl hd k
theorem ggN_0_6 (C : Cx K l D ad dA z0 tt cc own nL R) {host : String} {index : Nat} (hl : Cond.fieldLinkNest own index "CompositeDecoder" "phases" "LCompositeDecoder$PhaseReference;" host ∈ lw_nest) (hd : decode cc pc = .ok (.getfield index, 3)) (k : K σ φ (pc + 3) lv (.ref (ad 35) :: st)) : K σ φ pc lv (.ref (ad 0) :: st) := g_getN C (T := TX10) iu_10 0 (fun f => at_0 ad dA σ f) rfl 6 (by decide) hl rfl rfl hd k
theorem gg_0_7 (C : Cx K l D ad dA z0 tt cc own nL R) {index : Nat} (hl : Cond.fieldLink own index "CompositeDecoder" "combs" "LCompositeDecoder$Combs;" ∈ lw_all) (hd : decode cc pc = .ok (.getfield index, 3)) (k : K σ φ (pc + 3) lv (.ref (ad 38) :: st)) : K σ φ pc lv (.ref (ad 0) :: st) := g_get C (T := TX10) iu_10 0 (fun f => at_0 ad dA σ f) rfl 7 (by decide) hl rfl rfl hd k
theorem ggN_0_7 (C : Cx K l D ad dA z0 tt cc own nL R) {host : String} {index : Nat} (hl : Cond.fieldLinkNest own index "CompositeDecoder" "combs" "LCompositeDecoder$Combs;" host ∈ lw_nest) (hd : decode cc pc = .ok (.getfield index, 3)) (k : K σ φ (pc + 3) lv (.ref (ad 38) :: st)) : K σ φ pc lv (.ref (ad 0) :: st) := g_getN C (T := TX10) iu_10 0 (fun f => at_0 ad dA σ f) rfl 7 (by decide) hl rfl rfl hd k
theorem gg_0_8 (C : Cx K l D ad dA z0 tt cc own nL R) {index : Nat} (hl : Cond.fieldLink own index "CompositeDecoder" "colors" "LCompositeDecoder$Colors;" ∈ lw_all) (hd : decode cc pc = .ok (.getfield index, 3)) (k : K σ φ (pc + 3) lv (.ref (ad 44) :: st)) : K σ φ pc lv (.ref (ad 0) :: st) := g_get C (T := TX10) iu_10 0 (fun f => at_0 ad dA σ f) rfl 8 (by decide) hl rfl rfl hd k
theorem ggN_0_8 (C : Cx K l D ad dA z0 tt cc own nL R) {host : String} {index : Nat} (hl : Cond.fieldLinkNest own index "CompositeDecoder" "colors" "LCompositeDecoder$Colors;" host ∈ lw_nest) (hd : decode cc pc = .ok (.getfield index, 3)) (k : K σ φ (pc + 3) lv (.ref (ad 44) :: st)) : K σ φ pc lv (.ref (ad 0) :: st) := g_getN C (T := TX10) iu_10 0 (fun f => at_0 ad dA σ f) rfl 8 (by decide) hl rfl rfl hd k
theorem gg_0_9 (C : Cx K l D ad dA z0 tt cc own nL R) {index : Nat} (hl : Cond.fieldLink own index "CompositeDecoder" "movement" "LCompositeDecoder$Movement;" ∈ lw_all) (hd : decode cc pc = .ok (.getfield index, 3)) (k : K σ φ (pc + 3) lv (.ref (ad 49) :: st)) : K σ φ pc lv (.ref (ad 0) :: st) := g_get C (T := TX10) iu_10 0 (fun f => at_0 ad dA σ f) rfl 9 (by decide) hl rfl rfl hd k
theorem ggN_0_9 (C : Cx K l D ad dA z0 tt cc own nL R) {host : String} {index : Nat} (hl : Cond.fieldLinkNest own index "CompositeDecoder" "movement" "LCompositeDecoder$Movement;" host ∈ lw_nest) (hd : decode cc pc = .ok (.getfield index, 3)) (k : K σ φ (pc + 3) lv (.ref (ad 49) :: st)) : K σ φ pc lv (.ref (ad 0) :: st) := g_getN C (T := TX10) iu_10 0 (fun f => at_0 ad dA σ f) rfl 9 (by decide) hl rfl rfl hd k
theorem gg_0_10 (C : Cx K l D ad dA z0 tt cc own nL R) {index : Nat} (hl : Cond.fieldLink own index "CompositeDecoder" "decodings" "I" ∈ lw_all) (hd : decode cc pc = .ok (.getfield index, 3)) (k : K σ φ (pc + 3) lv (.int (σ 0 10) :: st)) : K σ φ pc lv (.ref (ad 0) :: st) := g_get C (T := TX10) iu_10 0 (fun f => at_0 ad dA σ f) rfl 10 (by decide) hl rfl rfl hd k
theorem gp_0_10 (C : Cx K l D ad dA z0 tt cc own nL R) {index : Nat} {x : Int32} (hl : Cond.fieldLink own index "CompositeDecoder" "decodings" "I" ∈ lw_all) (hd : decode cc pc = .ok (.putfield index, 3)) (k : K (va_up σ 0 (upd (σ 0) 10 x)) φ (pc + 3) lv st) : K σ φ pc lv (.int x :: .ref (ad 0) :: st) := g_put C (T := TX10) (ty := .int) iu_10 tyX10 tyX10_ok nmX10 0 (fun f => at_0 ad dA σ f) rfl 10 (by decide) hl rfl rfl rfl rfl rfl (Nat.le_of_ble_eq_true rfl) (fun f => set_0_10 ad dA σ f x) hd k
theorem ggN_0_10 (C : Cx K l D ad dA z0 tt cc own nL R) {host : String} {index : Nat} (hl : Cond.fieldLinkNest own index "CompositeDecoder" "decodings" "I" host ∈ lw_nest) (hd : decode cc pc = .ok (.getfield index, 3)) (k : K σ φ (pc + 3) lv (.int (σ 0 10) :: st)) : K σ φ pc lv (.ref (ad 0) :: st) := g_getN C (T := TX10) iu_10 0 (fun f => at_0 ad dA σ f) rfl 10 (by decide) hl rfl rfl hd k
theorem gpN_0_10 (C : Cx K l D ad dA z0 tt cc own nL R) {host : String} {index : Nat} {x : Int32} (hl : Cond.fieldLinkNest own index "CompositeDecoder" "decodings" "I" host ∈ lw_nest) (hd : decode cc pc = .ok (.putfield index, 3)) (k : K (va_up σ 0 (upd (σ 0) 10 x)) φ (pc + 3) lv st) : K σ φ pc lv (.int x :: .ref (ad 0) :: st) := g_putN C (T := TX10) (ty := .int) iu_10 tyX10 tyX10_ok nmX10 0 (fun f => at_0 ad dA σ f) rfl 10 (by decide) hl rfl rfl rfl rfl rfl (Nat.le_of_ble_eq_true rfl) (fun f => set_0_10 ad dA σ f x) hd k
theorem gg_1_0 (C : Cx K l D ad dA z0 tt cc own nL R) {index : Nat} (hl : Cond.fieldLink own index "CompositeDecoder$Picture" "lumas" "[I" ∈ lw_all) (hd : decode cc pc = .ok (.getfield index, 3)) (k : K σ φ (pc + 3) lv (.ref (ad 2) :: st)) : K σ φ pc lv (.ref (ad 1) :: st) := g_get C (T := TX7) iu_7 1 (fun f => at_1 ad dA σ f) rfl 0 (by decide) hl rfl rfl hd k
theorem ggN_1_0 (C : Cx K l D ad dA z0 tt cc own nL R) {host : String} {index : Nat} (hl : Cond.fieldLinkNest own index "CompositeDecoder$Picture" "lumas" "[I" host ∈ lw_nest) (hd : decode cc pc = .ok (.getfield index, 3)) (k : K σ φ (pc + 3) lv (.ref (ad 2) :: st)) : K σ φ pc lv (.ref (ad 1) :: st) := g_getN C (T := TX7) iu_7 1 (fun f => at_1 ad dA σ f) rfl 0 (by decide) hl rfl rfl hd k
theorem gg_1_1 (C : Cx K l D ad dA z0 tt cc own nL R) {index : Nat} (hl : Cond.fieldLink own index "CompositeDecoder$Picture" "us" "[I" ∈ lw_all) (hd : decode cc pc = .ok (.getfield index, 3)) (k : K σ φ (pc + 3) lv (.ref (ad 3) :: st)) : K σ φ pc lv (.ref (ad 1) :: st) := g_get C (T := TX7) iu_7 1 (fun f => at_1 ad dA σ f) rfl 1 (by decide) hl rfl rfl hd k
theorem ggN_1_1 (C : Cx K l D ad dA z0 tt cc own nL R) {host : String} {index : Nat} (hl : Cond.fieldLinkNest own index "CompositeDecoder$Picture" "us" "[I" host ∈ lw_nest) (hd : decode cc pc = .ok (.getfield index, 3)) (k : K σ φ (pc + 3) lv (.ref (ad 3) :: st)) : K σ φ pc lv (.ref (ad 1) :: st) := g_getN C (T := TX7) iu_7 1 (fun f => at_1 ad dA σ f) rfl 1 (by decide) hl rfl rfl hd k
theorem gg_1_2 (C : Cx K l D ad dA z0 tt cc own nL R) {index : Nat} (hl : Cond.fieldLink own index "CompositeDecoder$Picture" "vs" "[I" ∈ lw_all) (hd : decode cc pc = .ok (.getfield index, 3)) (k : K σ φ (pc + 3) lv (.ref (ad 4) :: st)) : K σ φ pc lv (.ref (ad 1) :: st) := g_get C (T := TX7) iu_7 1 (fun f => at_1 ad dA σ f) rfl 2 (by decide) hl rfl rfl hd k
theorem ggN_1_2 (C : Cx K l D ad dA z0 tt cc own nL R) {host : String} {index : Nat} (hl : Cond.fieldLinkNest own index "CompositeDecoder$Picture" "vs" "[I" host ∈ lw_nest) (hd : decode cc pc = .ok (.getfield index, 3)) (k : K σ φ (pc + 3) lv (.ref (ad 4) :: st)) : K σ φ pc lv (.ref (ad 1) :: st) := g_getN C (T := TX7) iu_7 1 (fun f => at_1 ad dA σ f) rfl 2 (by decide) hl rfl rfl hd k
theorem gg_1_3 (C : Cx K l D ad dA z0 tt cc own nL R) {index : Nat} (hl : Cond.fieldLink own index "CompositeDecoder$Picture" "jitters" "[I" ∈ lw_all) (hd : decode cc pc = .ok (.getfield index, 3)) (k : K σ φ (pc + 3) lv (.ref (ad 5) :: st)) : K σ φ pc lv (.ref (ad 1) :: st) := g_get C (T := TX7) iu_7 1 (fun f => at_1 ad dA σ f) rfl 3 (by decide) hl rfl rfl hd k
theorem ggN_1_3 (C : Cx K l D ad dA z0 tt cc own nL R) {host : String} {index : Nat} (hl : Cond.fieldLinkNest own index "CompositeDecoder$Picture" "jitters" "[I" host ∈ lw_nest) (hd : decode cc pc = .ok (.getfield index, 3)) (k : K σ φ (pc + 3) lv (.ref (ad 5) :: st)) : K σ φ pc lv (.ref (ad 1) :: st) := g_getN C (T := TX7) iu_7 1 (fun f => at_1 ad dA σ f) rfl 3 (by decide) hl rfl rfl hd k
theorem gg_1_4 (C : Cx K l D ad dA z0 tt cc own nL R) {index : Nat} (hl : Cond.fieldLink own index "CompositeDecoder$Picture" "amplitudes" "[I" ∈ lw_all) (hd : decode cc pc = .ok (.getfield index, 3)) (k : K σ φ (pc + 3) lv (.ref (ad 6) :: st)) : K σ φ pc lv (.ref (ad 1) :: st) := g_get C (T := TX7) iu_7 1 (fun f => at_1 ad dA σ f) rfl 4 (by decide) hl rfl rfl hd k
theorem ggN_1_4 (C : Cx K l D ad dA z0 tt cc own nL R) {host : String} {index : Nat} (hl : Cond.fieldLinkNest own index "CompositeDecoder$Picture" "amplitudes" "[I" host ∈ lw_nest) (hd : decode cc pc = .ok (.getfield index, 3)) (k : K σ φ (pc + 3) lv (.ref (ad 6) :: st)) : K σ φ pc lv (.ref (ad 1) :: st) := g_getN C (T := TX7) iu_7 1 (fun f => at_1 ad dA σ f) rfl 4 (by decide) hl rfl rfl hd k
theorem gg_1_5 (C : Cx K l D ad dA z0 tt cc own nL R) {index : Nat} (hl : Cond.fieldLink own index "CompositeDecoder$Picture" "phases" "[I" ∈ lw_all) (hd : decode cc pc = .ok (.getfield index, 3)) (k : K σ φ (pc + 3) lv (.ref (ad 7) :: st)) : K σ φ pc lv (.ref (ad 1) :: st) := g_get C (T := TX7) iu_7 1 (fun f => at_1 ad dA σ f) rfl 5 (by decide) hl rfl rfl hd k
theorem ggN_1_5 (C : Cx K l D ad dA z0 tt cc own nL R) {host : String} {index : Nat} (hl : Cond.fieldLinkNest own index "CompositeDecoder$Picture" "phases" "[I" host ∈ lw_nest) (hd : decode cc pc = .ok (.getfield index, 3)) (k : K σ φ (pc + 3) lv (.ref (ad 7) :: st)) : K σ φ pc lv (.ref (ad 1) :: st) := g_getN C (T := TX7) iu_7 1 (fun f => at_1 ad dA σ f) rfl 5 (by decide) hl rfl rfl hd k
theorem gg_1_6 (C : Cx K l D ad dA z0 tt cc own nL R) {index : Nat} (hl : Cond.fieldLink own index "CompositeDecoder$Picture" "noises" "[I" ∈ lw_all) (hd : decode cc pc = .ok (.getfield index, 3)) (k : K σ φ (pc + 3) lv (.ref (ad 8) :: st)) : K σ φ pc lv (.ref (ad 1) :: st) := g_get C (T := TX7) iu_7 1 (fun f => at_1 ad dA σ f) rfl 6 (by decide) hl rfl rfl hd k
theorem ggN_1_6 (C : Cx K l D ad dA z0 tt cc own nL R) {host : String} {index : Nat} (hl : Cond.fieldLinkNest own index "CompositeDecoder$Picture" "noises" "[I" host ∈ lw_nest) (hd : decode cc pc = .ok (.getfield index, 3)) (k : K σ φ (pc + 3) lv (.ref (ad 8) :: st)) : K σ φ pc lv (.ref (ad 1) :: st) := g_getN C (T := TX7) iu_7 1 (fun f => at_1 ad dA σ f) rfl 6 (by decide) hl rfl rfl hd k
theorem gg_1_7 (C : Cx K l D ad dA z0 tt cc own nL R) {index : Nat} (hl : Cond.fieldLink own index "CompositeDecoder$Picture" "missing" "[Z" ∈ lw_all) (hd : decode cc pc = .ok (.getfield index, 3)) (k : K σ φ (pc + 3) lv (.ref (ad 9) :: st)) : K σ φ pc lv (.ref (ad 1) :: st) := g_get C (T := TX7) iu_7 1 (fun f => at_1 ad dA σ f) rfl 7 (by decide) hl rfl rfl hd k
theorem ggN_1_7 (C : Cx K l D ad dA z0 tt cc own nL R) {host : String} {index : Nat} (hl : Cond.fieldLinkNest own index "CompositeDecoder$Picture" "missing" "[Z" host ∈ lw_nest) (hd : decode cc pc = .ok (.getfield index, 3)) (k : K σ φ (pc + 3) lv (.ref (ad 9) :: st)) : K σ φ pc lv (.ref (ad 1) :: st) := g_getN C (T := TX7) iu_7 1 (fun f => at_1 ad dA σ f) rfl 7 (by decide) hl rfl rfl hd k
theorem gg_1_8 (C : Cx K l D ad dA z0 tt cc own nL R) {index : Nat} (hl : Cond.fieldLink own index "CompositeDecoder$Picture" "standard" "I" ∈ lw_all) (hd : decode cc pc = .ok (.getfield index, 3)) (k : K σ φ (pc + 3) lv (.int (σ 1 8) :: st)) : K σ φ pc lv (.ref (ad 1) :: st) := g_get C (T := TX7) iu_7 1 (fun f => at_1 ad dA σ f) rfl 8 (by decide) hl rfl rfl hd k
theorem gp_1_8 (C : Cx K l D ad dA z0 tt cc own nL R) {index : Nat} {x : Int32} (hl : Cond.fieldLink own index "CompositeDecoder$Picture" "standard" "I" ∈ lw_all) (hd : decode cc pc = .ok (.putfield index, 3)) (k : K (va_up σ 1 (upd (σ 1) 8 x)) φ (pc + 3) lv st) : K σ φ pc lv (.int x :: .ref (ad 1) :: st) := g_put C (T := TX7) (ty := .int) iu_7 tyX7 tyX7_ok nmX7 1 (fun f => at_1 ad dA σ f) rfl 8 (by decide) hl rfl rfl rfl rfl rfl (Nat.le_of_ble_eq_true rfl) (fun f => set_1_8 ad dA σ f x) hd k
theorem ggN_1_8 (C : Cx K l D ad dA z0 tt cc own nL R) {host : String} {index : Nat} (hl : Cond.fieldLinkNest own index "CompositeDecoder$Picture" "standard" "I" host ∈ lw_nest) (hd : decode cc pc = .ok (.getfield index, 3)) (k : K σ φ (pc + 3) lv (.int (σ 1 8) :: st)) : K σ φ pc lv (.ref (ad 1) :: st) := g_getN C (T := TX7) iu_7 1 (fun f => at_1 ad dA σ f) rfl 8 (by decide) hl rfl rfl hd k
theorem gpN_1_8 (C : Cx K l D ad dA z0 tt cc own nL R) {host : String} {index : Nat} {x : Int32} (hl : Cond.fieldLinkNest own index "CompositeDecoder$Picture" "standard" "I" host ∈ lw_nest) (hd : decode cc pc = .ok (.putfield index, 3)) (k : K (va_up σ 1 (upd (σ 1) 8 x)) φ (pc + 3) lv st) : K σ φ pc lv (.int x :: .ref (ad 1) :: st) := g_putN C (T := TX7) (ty := .int) iu_7 tyX7 tyX7_ok nmX7 1 (fun f => at_1 ad dA σ f) rfl 8 (by decide) hl rfl rfl rfl rfl rfl (Nat.le_of_ble_eq_true rfl) (fun f => set_1_8 ad dA σ f x) hd k
theorem ld_2 (C : Cx K l D ad dA z0 tt cc own nL R) {i : Int32} (hin : vp_in i 80) (hd : decode cc pc = .ok (.iaload, 1)) (k : K σ φ (pc + 1) lv (.int (σ 2 i.toNatClampNeg) :: st)) : K σ φ pc lv (.int i :: .ref (ad 2) :: st) := g_iald C 2 (fun f => at_2 ad dA σ f) hin hd k
theorem sd_2 (C : Cx K l D ad dA z0 tt cc own nL R) {i x : Int32} (hin : vp_in i 80) (hd : decode cc pc = .ok (.iastore, 1)) (k : K (va_up σ 2 (upd (σ 2) i.toNatClampNeg x)) φ (pc + 1) lv st) : K σ φ pc lv (.int x :: .int i :: .ref (ad 2) :: st) := g_iast C 2 (fun f => at_2 ad dA σ f) hin (fun f => set_2 ad dA σ f _) hd k
theorem ld_3 (C : Cx K l D ad dA z0 tt cc own nL R) {i : Int32} (hin : vp_in i 80) (hd : decode cc pc = .ok (.iaload, 1)) (k : K σ φ (pc + 1) lv (.int (σ 3 i.toNatClampNeg) :: st)) : K σ φ pc lv (.int i :: .ref (ad 3) :: st) := g_iald C 3 (fun f => at_3 ad dA σ f) hin hd k
theorem sd_3 (C : Cx K l D ad dA z0 tt cc own nL R) {i x : Int32} (hin : vp_in i 80) (hd : decode cc pc = .ok (.iastore, 1)) (k : K (va_up σ 3 (upd (σ 3) i.toNatClampNeg x)) φ (pc + 1) lv st) : K σ φ pc lv (.int x :: .int i :: .ref (ad 3) :: st) := g_iast C 3 (fun f => at_3 ad dA σ f) hin (fun f => set_3 ad dA σ f _) hd k
theorem ld_4 (C : Cx K l D ad dA z0 tt cc own nL R) {i : Int32} (hin : vp_in i 80) (hd : decode cc pc = .ok (.iaload, 1)) (k : K σ φ (pc + 1) lv (.int (σ 4 i.toNatClampNeg) :: st)) : K σ φ pc lv (.int i :: .ref (ad 4) :: st) := g_iald C 4 (fun f => at_4 ad dA σ f) hin hd k
theorem sd_4 (C : Cx K l D ad dA z0 tt cc own nL R) {i x : Int32} (hin : vp_in i 80) (hd : decode cc pc = .ok (.iastore, 1)) (k : K (va_up σ 4 (upd (σ 4) i.toNatClampNeg x)) φ (pc + 1) lv st) : K σ φ pc lv (.int x :: .int i :: .ref (ad 4) :: st) := g_iast C 4 (fun f => at_4 ad dA σ f) hin (fun f => set_4 ad dA σ f _) hd k
theorem ld_5 (C : Cx K l D ad dA z0 tt cc own nL R) {i : Int32} (hin : vp_in i 8) (hd : decode cc pc = .ok (.iaload, 1)) (k : K σ φ (pc + 1) lv (.int (σ 5 i.toNatClampNeg) :: st)) : K σ φ pc lv (.int i :: .ref (ad 5) :: st) := g_iald C 5 (fun f => at_5 ad dA σ f) hin hd k
theorem sd_5 (C : Cx K l D ad dA z0 tt cc own nL R) {i x : Int32} (hin : vp_in i 8) (hd : decode cc pc = .ok (.iastore, 1)) (k : K (va_up σ 5 (upd (σ 5) i.toNatClampNeg x)) φ (pc + 1) lv st) : K σ φ pc lv (.int x :: .int i :: .ref (ad 5) :: st) := g_iast C 5 (fun f => at_5 ad dA σ f) hin (fun f => set_5 ad dA σ f _) hd k
theorem ld_6 (C : Cx K l D ad dA z0 tt cc own nL R) {i : Int32} (hin : vp_in i 8) (hd : decode cc pc = .ok (.iaload, 1)) (k : K σ φ (pc + 1) lv (.int (σ 6 i.toNatClampNeg) :: st)) : K σ φ pc lv (.int i :: .ref (ad 6) :: st) := g_iald C 6 (fun f => at_6 ad dA σ f) hin hd k
theorem sd_6 (C : Cx K l D ad dA z0 tt cc own nL R) {i x : Int32} (hin : vp_in i 8) (hd : decode cc pc = .ok (.iastore, 1)) (k : K (va_up σ 6 (upd (σ 6) i.toNatClampNeg x)) φ (pc + 1) lv st) : K σ φ pc lv (.int x :: .int i :: .ref (ad 6) :: st) := g_iast C 6 (fun f => at_6 ad dA σ f) hin (fun f => set_6 ad dA σ f _) hd k
theorem ld_7 (C : Cx K l D ad dA z0 tt cc own nL R) {i : Int32} (hin : vp_in i 8) (hd : decode cc pc = .ok (.iaload, 1)) (k : K σ φ (pc + 1) lv (.int (σ 7 i.toNatClampNeg) :: st)) : K σ φ pc lv (.int i :: .ref (ad 7) :: st) := g_iald C 7 (fun f => at_7 ad dA σ f) hin hd k
theorem sd_7 (C : Cx K l D ad dA z0 tt cc own nL R) {i x : Int32} (hin : vp_in i 8) (hd : decode cc pc = .ok (.iastore, 1)) (k : K (va_up σ 7 (upd (σ 7) i.toNatClampNeg x)) φ (pc + 1) lv st) : K σ φ pc lv (.int x :: .int i :: .ref (ad 7) :: st) := g_iast C 7 (fun f => at_7 ad dA σ f) hin (fun f => set_7 ad dA σ f _) hd k
theorem ld_8 (C : Cx K l D ad dA z0 tt cc own nL R) {i : Int32} (hin : vp_in i 8) (hd : decode cc pc = .ok (.iaload, 1)) (k : K σ φ (pc + 1) lv (.int (σ 8 i.toNatClampNeg) :: st)) : K σ φ pc lv (.int i :: .ref (ad 8) :: st) := g_iald C 8 (fun f => at_8 ad dA σ f) hin hd k
theorem sd_8 (C : Cx K l D ad dA z0 tt cc own nL R) {i x : Int32} (hin : vp_in i 8) (hd : decode cc pc = .ok (.iastore, 1)) (k : K (va_up σ 8 (upd (σ 8) i.toNatClampNeg x)) φ (pc + 1) lv st) : K σ φ pc lv (.int x :: .int i :: .ref (ad 8) :: st) := g_iast C 8 (fun f => at_8 ad dA σ f) hin (fun f => set_8 ad dA σ f _) hd k
theorem ld_9 (C : Cx K l D ad dA z0 tt cc own nL R) {i : Int32} (hin : vp_in i 8) (hd : decode cc pc = .ok (.baload, 1)) (k : K σ φ (pc + 1) lv (.int (σ 9 i.toNatClampNeg) :: st)) : K σ φ pc lv (.int i :: .ref (ad 9) :: st) := g_zald C 9 (fun f => at_9 ad dA σ f) hin hd k
theorem sd_9 (C : Cx K l D ad dA z0 tt cc own nL R) {i x : Int32} (hin : vp_in i 8) (hd : decode cc pc = .ok (.bastore, 1)) (k : K (va_up σ 9 (upd (σ 9) i.toNatClampNeg (vp_nar .boolean x))) φ (pc + 1) lv st) : K σ φ pc lv (.int x :: .int i :: .ref (ad 9) :: st) := g_zast C 9 (fun f => at_9 ad dA σ f) hin (fun f => set_9 ad dA σ f _) hd k
theorem gg_10_0 (C : Cx K l D ad dA z0 tt cc own nL R) {index : Nat} (hl : Cond.fieldLink own index "CompositeDecoder$BarText" "characters" "[C" ∈ lw_all) (hd : decode cc pc = .ok (.getfield index, 3)) (k : K σ φ (pc + 3) lv (.ref (ad 11) :: st)) : K σ φ pc lv (.ref (ad 10) :: st) := g_get C (T := TX0) iu_0 10 (fun f => at_10 ad dA σ f) rfl 0 (by decide) hl rfl rfl hd k
theorem ggN_10_0 (C : Cx K l D ad dA z0 tt cc own nL R) {host : String} {index : Nat} (hl : Cond.fieldLinkNest own index "CompositeDecoder$BarText" "characters" "[C" host ∈ lw_nest) (hd : decode cc pc = .ok (.getfield index, 3)) (k : K σ φ (pc + 3) lv (.ref (ad 11) :: st)) : K σ φ pc lv (.ref (ad 10) :: st) := g_getN C (T := TX0) iu_0 10 (fun f => at_10 ad dA σ f) rfl 0 (by decide) hl rfl rfl hd k
theorem gg_10_1 (C : Cx K l D ad dA z0 tt cc own nL R) {index : Nat} (hl : Cond.fieldLink own index "CompositeDecoder$BarText" "used" "I" ∈ lw_all) (hd : decode cc pc = .ok (.getfield index, 3)) (k : K σ φ (pc + 3) lv (.int (σ 10 1) :: st)) : K σ φ pc lv (.ref (ad 10) :: st) := g_get C (T := TX0) iu_0 10 (fun f => at_10 ad dA σ f) rfl 1 (by decide) hl rfl rfl hd k
theorem gp_10_1 (C : Cx K l D ad dA z0 tt cc own nL R) {index : Nat} {x : Int32} (hl : Cond.fieldLink own index "CompositeDecoder$BarText" "used" "I" ∈ lw_all) (hd : decode cc pc = .ok (.putfield index, 3)) (k : K (va_up σ 10 (upd (σ 10) 1 x)) φ (pc + 3) lv st) : K σ φ pc lv (.int x :: .ref (ad 10) :: st) := g_put C (T := TX0) (ty := .int) iu_0 tyX0 tyX0_ok nmX0 10 (fun f => at_10 ad dA σ f) rfl 1 (by decide) hl rfl rfl rfl rfl rfl (Nat.le_of_ble_eq_true rfl) (fun f => set_10_1 ad dA σ f x) hd k
theorem ggN_10_1 (C : Cx K l D ad dA z0 tt cc own nL R) {host : String} {index : Nat} (hl : Cond.fieldLinkNest own index "CompositeDecoder$BarText" "used" "I" host ∈ lw_nest) (hd : decode cc pc = .ok (.getfield index, 3)) (k : K σ φ (pc + 3) lv (.int (σ 10 1) :: st)) : K σ φ pc lv (.ref (ad 10) :: st) := g_getN C (T := TX0) iu_0 10 (fun f => at_10 ad dA σ f) rfl 1 (by decide) hl rfl rfl hd k
theorem gpN_10_1 (C : Cx K l D ad dA z0 tt cc own nL R) {host : String} {index : Nat} {x : Int32} (hl : Cond.fieldLinkNest own index "CompositeDecoder$BarText" "used" "I" host ∈ lw_nest) (hd : decode cc pc = .ok (.putfield index, 3)) (k : K (va_up σ 10 (upd (σ 10) 1 x)) φ (pc + 3) lv st) : K σ φ pc lv (.int x :: .ref (ad 10) :: st) := g_putN C (T := TX0) (ty := .int) iu_0 tyX0 tyX0_ok nmX0 10 (fun f => at_10 ad dA σ f) rfl 1 (by decide) hl rfl rfl rfl rfl rfl (Nat.le_of_ble_eq_true rfl) (fun f => set_10_1 ad dA σ f x) hd k
theorem gg_10_2 (C : Cx K l D ad dA z0 tt cc own nL R) {index : Nat} (hl : Cond.fieldLink own index "CompositeDecoder$BarText" "bars" "[I" ∈ lw_all) (hd : decode cc pc = .ok (.getfield index, 3)) (k : K σ φ (pc + 3) lv (.ref (ad 12) :: st)) : K σ φ pc lv (.ref (ad 10) :: st) := g_get C (T := TX0) iu_0 10 (fun f => at_10 ad dA σ f) rfl 2 (by decide) hl rfl rfl hd k
theorem ggN_10_2 (C : Cx K l D ad dA z0 tt cc own nL R) {host : String} {index : Nat} (hl : Cond.fieldLinkNest own index "CompositeDecoder$BarText" "bars" "[I" host ∈ lw_nest) (hd : decode cc pc = .ok (.getfield index, 3)) (k : K σ φ (pc + 3) lv (.ref (ad 12) :: st)) : K σ φ pc lv (.ref (ad 10) :: st) := g_getN C (T := TX0) iu_0 10 (fun f => at_10 ad dA σ f) rfl 2 (by decide) hl rfl rfl hd k
theorem gg_10_3 (C : Cx K l D ad dA z0 tt cc own nL R) {index : Nat} (hl : Cond.fieldLink own index "CompositeDecoder$BarText" "letters" "I" ∈ lw_all) (hd : decode cc pc = .ok (.getfield index, 3)) (k : K σ φ (pc + 3) lv (.int (σ 10 3) :: st)) : K σ φ pc lv (.ref (ad 10) :: st) := g_get C (T := TX0) iu_0 10 (fun f => at_10 ad dA σ f) rfl 3 (by decide) hl rfl rfl hd k
theorem gp_10_3 (C : Cx K l D ad dA z0 tt cc own nL R) {index : Nat} {x : Int32} (hl : Cond.fieldLink own index "CompositeDecoder$BarText" "letters" "I" ∈ lw_all) (hd : decode cc pc = .ok (.putfield index, 3)) (k : K (va_up σ 10 (upd (σ 10) 3 x)) φ (pc + 3) lv st) : K σ φ pc lv (.int x :: .ref (ad 10) :: st) := g_put C (T := TX0) (ty := .int) iu_0 tyX0 tyX0_ok nmX0 10 (fun f => at_10 ad dA σ f) rfl 3 (by decide) hl rfl rfl rfl rfl rfl (Nat.le_of_ble_eq_true rfl) (fun f => set_10_3 ad dA σ f x) hd k
theorem ggN_10_3 (C : Cx K l D ad dA z0 tt cc own nL R) {host : String} {index : Nat} (hl : Cond.fieldLinkNest own index "CompositeDecoder$BarText" "letters" "I" host ∈ lw_nest) (hd : decode cc pc = .ok (.getfield index, 3)) (k : K σ φ (pc + 3) lv (.int (σ 10 3) :: st)) : K σ φ pc lv (.ref (ad 10) :: st) := g_getN C (T := TX0) iu_0 10 (fun f => at_10 ad dA σ f) rfl 3 (by decide) hl rfl rfl hd k
theorem gpN_10_3 (C : Cx K l D ad dA z0 tt cc own nL R) {host : String} {index : Nat} {x : Int32} (hl : Cond.fieldLinkNest own index "CompositeDecoder$BarText" "letters" "I" host ∈ lw_nest) (hd : decode cc pc = .ok (.putfield index, 3)) (k : K (va_up σ 10 (upd (σ 10) 3 x)) φ (pc + 3) lv st) : K σ φ pc lv (.int x :: .ref (ad 10) :: st) := g_putN C (T := TX0) (ty := .int) iu_0 tyX0 tyX0_ok nmX0 10 (fun f => at_10 ad dA σ f) rfl 3 (by decide) hl rfl rfl rfl rfl rfl (Nat.le_of_ble_eq_true rfl) (fun f => set_10_3 ad dA σ f x) hd k
theorem ld_11 (C : Cx K l D ad dA z0 tt cc own nL R) {i : Int32} (hin : vp_in i 60) (hd : decode cc pc = .ok (.caload, 1)) (k : K σ φ (pc + 1) lv (.int (σ 11 i.toNatClampNeg) :: st)) : K σ φ pc lv (.int i :: .ref (ad 11) :: st) := g_cald C 11 (fun f => at_11 ad dA σ f) hin hd k
theorem sd_11 (C : Cx K l D ad dA z0 tt cc own nL R) {i x : Int32} (hin : vp_in i 60) (hd : decode cc pc = .ok (.castore, 1)) (k : K (va_up σ 11 (upd (σ 11) i.toNatClampNeg (vp_nar .char x))) φ (pc + 1) lv st) : K σ φ pc lv (.int x :: .int i :: .ref (ad 11) :: st) := g_cast C 11 (fun f => at_11 ad dA σ f) hin (fun f => set_11 ad dA σ f _) hd k
theorem ld_12 (C : Cx K l D ad dA z0 tt cc own nL R) {i : Int32} (hin : vp_in i 10) (hd : decode cc pc = .ok (.iaload, 1)) (k : K σ φ (pc + 1) lv (.int (σ 12 i.toNatClampNeg) :: st)) : K σ φ pc lv (.int i :: .ref (ad 12) :: st) := g_iald C 12 (fun f => at_12 ad dA σ f) hin hd k
theorem sd_12 (C : Cx K l D ad dA z0 tt cc own nL R) {i x : Int32} (hin : vp_in i 10) (hd : decode cc pc = .ok (.iastore, 1)) (k : K (va_up σ 12 (upd (σ 12) i.toNatClampNeg x)) φ (pc + 1) lv st) : K σ φ pc lv (.int x :: .int i :: .ref (ad 12) :: st) := g_iast C 12 (fun f => at_12 ad dA σ f) hin (fun f => set_12 ad dA σ f _) hd k
theorem gg_13_0 (C : Cx K l D ad dA z0 tt cc own nL R) {index : Nat} (hl : Cond.fieldLink own index "CompositeDecoder$Settings" "values" "[I" ∈ lw_all) (hd : decode cc pc = .ok (.getfield index, 3)) (k : K σ φ (pc + 3) lv (.ref (ad 14) :: st)) : K σ φ pc lv (.ref (ad 13) :: st) := g_get C (T := TX8) iu_8 13 (fun f => at_13 ad dA σ f) rfl 0 (by decide) hl rfl rfl hd k
theorem ggN_13_0 (C : Cx K l D ad dA z0 tt cc own nL R) {host : String} {index : Nat} (hl : Cond.fieldLinkNest own index "CompositeDecoder$Settings" "values" "[I" host ∈ lw_nest) (hd : decode cc pc = .ok (.getfield index, 3)) (k : K σ φ (pc + 3) lv (.ref (ad 14) :: st)) : K σ φ pc lv (.ref (ad 13) :: st) := g_getN C (T := TX8) iu_8 13 (fun f => at_13 ad dA σ f) rfl 0 (by decide) hl rfl rfl hd k
theorem ld_14 (C : Cx K l D ad dA z0 tt cc own nL R) {i : Int32} (hin : vp_in i 4) (hd : decode cc pc = .ok (.iaload, 1)) (k : K σ φ (pc + 1) lv (.int (σ 14 i.toNatClampNeg) :: st)) : K σ φ pc lv (.int i :: .ref (ad 14) :: st) := g_iald C 14 (fun f => at_14 ad dA σ f) hin hd k
theorem sd_14 (C : Cx K l D ad dA z0 tt cc own nL R) {i x : Int32} (hin : vp_in i 4) (hd : decode cc pc = .ok (.iastore, 1)) (k : K (va_up σ 14 (upd (σ 14) i.toNatClampNeg x)) φ (pc + 1) lv st) : K σ φ pc lv (.int x :: .int i :: .ref (ad 14) :: st) := g_iast C 14 (fun f => at_14 ad dA σ f) hin (fun f => set_14 ad dA σ f _) hd k
theorem gg_15_0 (C : Cx K l D ad dA z0 tt cc own nL R) {index : Nat} (hl : Cond.fieldLink own index "CompositeDecoder$Signal" "rows" "[[I" ∈ lw_all) (hd : decode cc pc = .ok (.getfield index, 3)) (k : K σ φ (pc + 3) lv (.ref (ad 16) :: st)) : K σ φ pc lv (.ref (ad 15) :: st) := g_get C (T := TX9) iu_9 15 (fun f => at_15 ad dA σ f) rfl 0 (by decide) hl rfl rfl hd k
theorem ggN_15_0 (C : Cx K l D ad dA z0 tt cc own nL R) {host : String} {index : Nat} (hl : Cond.fieldLinkNest own index "CompositeDecoder$Signal" "rows" "[[I" host ∈ lw_nest) (hd : decode cc pc = .ok (.getfield index, 3)) (k : K σ φ (pc + 3) lv (.ref (ad 16) :: st)) : K σ φ pc lv (.ref (ad 15) :: st) := g_getN C (T := TX9) iu_9 15 (fun f => at_15 ad dA σ f) rfl 0 (by decide) hl rfl rfl hd k
theorem ld_17 (C : Cx K l D ad dA z0 tt cc own nL R) {i : Int32} (hin : vp_in i 112) (hd : decode cc pc = .ok (.iaload, 1)) (k : K σ φ (pc + 1) lv (.int (σ 17 i.toNatClampNeg) :: st)) : K σ φ pc lv (.int i :: .ref (ad 17) :: st) := g_iald C 17 (fun f => at_17 ad dA σ f) hin hd k
theorem sd_17 (C : Cx K l D ad dA z0 tt cc own nL R) {i x : Int32} (hin : vp_in i 112) (hd : decode cc pc = .ok (.iastore, 1)) (k : K (va_up σ 17 (upd (σ 17) i.toNatClampNeg x)) φ (pc + 1) lv st) : K σ φ pc lv (.int x :: .int i :: .ref (ad 17) :: st) := g_iast C 17 (fun f => at_17 ad dA σ f) hin (fun f => set_17 ad dA σ f _) hd k
theorem ld_18 (C : Cx K l D ad dA z0 tt cc own nL R) {i : Int32} (hin : vp_in i 112) (hd : decode cc pc = .ok (.iaload, 1)) (k : K σ φ (pc + 1) lv (.int (σ 18 i.toNatClampNeg) :: st)) : K σ φ pc lv (.int i :: .ref (ad 18) :: st) := g_iald C 18 (fun f => at_18 ad dA σ f) hin hd k
theorem sd_18 (C : Cx K l D ad dA z0 tt cc own nL R) {i x : Int32} (hin : vp_in i 112) (hd : decode cc pc = .ok (.iastore, 1)) (k : K (va_up σ 18 (upd (σ 18) i.toNatClampNeg x)) φ (pc + 1) lv st) : K σ φ pc lv (.int x :: .int i :: .ref (ad 18) :: st) := g_iast C 18 (fun f => at_18 ad dA σ f) hin (fun f => set_18 ad dA σ f _) hd k
theorem ld_19 (C : Cx K l D ad dA z0 tt cc own nL R) {i : Int32} (hin : vp_in i 112) (hd : decode cc pc = .ok (.iaload, 1)) (k : K σ φ (pc + 1) lv (.int (σ 19 i.toNatClampNeg) :: st)) : K σ φ pc lv (.int i :: .ref (ad 19) :: st) := g_iald C 19 (fun f => at_19 ad dA σ f) hin hd k
theorem sd_19 (C : Cx K l D ad dA z0 tt cc own nL R) {i x : Int32} (hin : vp_in i 112) (hd : decode cc pc = .ok (.iastore, 1)) (k : K (va_up σ 19 (upd (σ 19) i.toNatClampNeg x)) φ (pc + 1) lv st) : K σ φ pc lv (.int x :: .int i :: .ref (ad 19) :: st) := g_iast C 19 (fun f => at_19 ad dA σ f) hin (fun f => set_19 ad dA σ f _) hd k
theorem ld_20 (C : Cx K l D ad dA z0 tt cc own nL R) {i : Int32} (hin : vp_in i 112) (hd : decode cc pc = .ok (.iaload, 1)) (k : K σ φ (pc + 1) lv (.int (σ 20 i.toNatClampNeg) :: st)) : K σ φ pc lv (.int i :: .ref (ad 20) :: st) := g_iald C 20 (fun f => at_20 ad dA σ f) hin hd k
theorem sd_20 (C : Cx K l D ad dA z0 tt cc own nL R) {i x : Int32} (hin : vp_in i 112) (hd : decode cc pc = .ok (.iastore, 1)) (k : K (va_up σ 20 (upd (σ 20) i.toNatClampNeg x)) φ (pc + 1) lv st) : K σ φ pc lv (.int x :: .int i :: .ref (ad 20) :: st) := g_iast C 20 (fun f => at_20 ad dA σ f) hin (fun f => set_20 ad dA σ f _) hd k
theorem ld_21 (C : Cx K l D ad dA z0 tt cc own nL R) {i : Int32} (hin : vp_in i 112) (hd : decode cc pc = .ok (.iaload, 1)) (k : K σ φ (pc + 1) lv (.int (σ 21 i.toNatClampNeg) :: st)) : K σ φ pc lv (.int i :: .ref (ad 21) :: st) := g_iald C 21 (fun f => at_21 ad dA σ f) hin hd k
theorem sd_21 (C : Cx K l D ad dA z0 tt cc own nL R) {i x : Int32} (hin : vp_in i 112) (hd : decode cc pc = .ok (.iastore, 1)) (k : K (va_up σ 21 (upd (σ 21) i.toNatClampNeg x)) φ (pc + 1) lv st) : K σ φ pc lv (.int x :: .int i :: .ref (ad 21) :: st) := g_iast C 21 (fun f => at_21 ad dA σ f) hin (fun f => set_21 ad dA σ f _) hd k
theorem ld_22 (C : Cx K l D ad dA z0 tt cc own nL R) {i : Int32} (hin : vp_in i 112) (hd : decode cc pc = .ok (.iaload, 1)) (k : K σ φ (pc + 1) lv (.int (σ 22 i.toNatClampNeg) :: st)) : K σ φ pc lv (.int i :: .ref (ad 22) :: st) := g_iald C 22 (fun f => at_22 ad dA σ f) hin hd k
theorem sd_22 (C : Cx K l D ad dA z0 tt cc own nL R) {i x : Int32} (hin : vp_in i 112) (hd : decode cc pc = .ok (.iastore, 1)) (k : K (va_up σ 22 (upd (σ 22) i.toNatClampNeg x)) φ (pc + 1) lv st) : K σ φ pc lv (.int x :: .int i :: .ref (ad 22) :: st) := g_iast C 22 (fun f => at_22 ad dA σ f) hin (fun f => set_22 ad dA σ f _) hd k
theorem ld_23 (C : Cx K l D ad dA z0 tt cc own nL R) {i : Int32} (hin : vp_in i 112) (hd : decode cc pc = .ok (.iaload, 1)) (k : K σ φ (pc + 1) lv (.int (σ 23 i.toNatClampNeg) :: st)) : K σ φ pc lv (.int i :: .ref (ad 23) :: st) := g_iald C 23 (fun f => at_23 ad dA σ f) hin hd k
theorem sd_23 (C : Cx K l D ad dA z0 tt cc own nL R) {i x : Int32} (hin : vp_in i 112) (hd : decode cc pc = .ok (.iastore, 1)) (k : K (va_up σ 23 (upd (σ 23) i.toNatClampNeg x)) φ (pc + 1) lv st) : K σ φ pc lv (.int x :: .int i :: .ref (ad 23) :: st) := g_iast C 23 (fun f => at_23 ad dA σ f) hin (fun f => set_23 ad dA σ f _) hd k
theorem ld_24 (C : Cx K l D ad dA z0 tt cc own nL R) {i : Int32} (hin : vp_in i 112) (hd : decode cc pc = .ok (.iaload, 1)) (k : K σ φ (pc + 1) lv (.int (σ 24 i.toNatClampNeg) :: st)) : K σ φ pc lv (.int i :: .ref (ad 24) :: st) := g_iald C 24 (fun f => at_24 ad dA σ f) hin hd k
theorem sd_24 (C : Cx K l D ad dA z0 tt cc own nL R) {i x : Int32} (hin : vp_in i 112) (hd : decode cc pc = .ok (.iastore, 1)) (k : K (va_up σ 24 (upd (σ 24) i.toNatClampNeg x)) φ (pc + 1) lv st) : K σ φ pc lv (.int x :: .int i :: .ref (ad 24) :: st) := g_iast C 24 (fun f => at_24 ad dA σ f) hin (fun f => set_24 ad dA σ f _) hd k
theorem gg_25_0 (C : Cx K l D ad dA z0 tt cc own nL R) {index : Nat} (hl : Cond.fieldLink own index "CompositeDecoder$LineFinder" "pulses" "[I" ∈ lw_all) (hd : decode cc pc = .ok (.getfield index, 3)) (k : K σ φ (pc + 3) lv (.ref (ad 26) :: st)) : K σ φ pc lv (.ref (ad 25) :: st) := g_get C (T := TX4) iu_4 25 (fun f => at_25 ad dA σ f) rfl 0 (by decide) hl rfl rfl hd k
theorem ggN_25_0 (C : Cx K l D ad dA z0 tt cc own nL R) {host : String} {index : Nat} (hl : Cond.fieldLinkNest own index "CompositeDecoder$LineFinder" "pulses" "[I" host ∈ lw_nest) (hd : decode cc pc = .ok (.getfield index, 3)) (k : K σ φ (pc + 3) lv (.ref (ad 26) :: st)) : K σ φ pc lv (.ref (ad 25) :: st) := g_getN C (T := TX4) iu_4 25 (fun f => at_25 ad dA σ f) rfl 0 (by decide) hl rfl rfl hd k
theorem gg_25_1 (C : Cx K l D ad dA z0 tt cc own nL R) {index : Nat} (hl : Cond.fieldLink own index "CompositeDecoder$LineFinder" "starts" "[I" ∈ lw_all) (hd : decode cc pc = .ok (.getfield index, 3)) (k : K σ φ (pc + 3) lv (.ref (ad 27) :: st)) : K σ φ pc lv (.ref (ad 25) :: st) := g_get C (T := TX4) iu_4 25 (fun f => at_25 ad dA σ f) rfl 1 (by decide) hl rfl rfl hd k
theorem ggN_25_1 (C : Cx K l D ad dA z0 tt cc own nL R) {host : String} {index : Nat} (hl : Cond.fieldLinkNest own index "CompositeDecoder$LineFinder" "starts" "[I" host ∈ lw_nest) (hd : decode cc pc = .ok (.getfield index, 3)) (k : K σ φ (pc + 3) lv (.ref (ad 27) :: st)) : K σ φ pc lv (.ref (ad 25) :: st) := g_getN C (T := TX4) iu_4 25 (fun f => at_25 ad dA σ f) rfl 1 (by decide) hl rfl rfl hd k
theorem gg_25_2 (C : Cx K l D ad dA z0 tt cc own nL R) {index : Nat} (hl : Cond.fieldLink own index "CompositeDecoder$LineFinder" "positions" "[I" ∈ lw_all) (hd : decode cc pc = .ok (.getfield index, 3)) (k : K σ φ (pc + 3) lv (.ref (ad 28) :: st)) : K σ φ pc lv (.ref (ad 25) :: st) := g_get C (T := TX4) iu_4 25 (fun f => at_25 ad dA σ f) rfl 2 (by decide) hl rfl rfl hd k
theorem ggN_25_2 (C : Cx K l D ad dA z0 tt cc own nL R) {host : String} {index : Nat} (hl : Cond.fieldLinkNest own index "CompositeDecoder$LineFinder" "positions" "[I" host ∈ lw_nest) (hd : decode cc pc = .ok (.getfield index, 3)) (k : K σ φ (pc + 3) lv (.ref (ad 28) :: st)) : K σ φ pc lv (.ref (ad 25) :: st) := g_getN C (T := TX4) iu_4 25 (fun f => at_25 ad dA σ f) rfl 2 (by decide) hl rfl rfl hd k
theorem gg_25_3 (C : Cx K l D ad dA z0 tt cc own nL R) {index : Nat} (hl : Cond.fieldLink own index "CompositeDecoder$LineFinder" "locked" "[Z" ∈ lw_all) (hd : decode cc pc = .ok (.getfield index, 3)) (k : K σ φ (pc + 3) lv (.ref (ad 29) :: st)) : K σ φ pc lv (.ref (ad 25) :: st) := g_get C (T := TX4) iu_4 25 (fun f => at_25 ad dA σ f) rfl 3 (by decide) hl rfl rfl hd k
theorem ggN_25_3 (C : Cx K l D ad dA z0 tt cc own nL R) {host : String} {index : Nat} (hl : Cond.fieldLinkNest own index "CompositeDecoder$LineFinder" "locked" "[Z" host ∈ lw_nest) (hd : decode cc pc = .ok (.getfield index, 3)) (k : K σ φ (pc + 3) lv (.ref (ad 29) :: st)) : K σ φ pc lv (.ref (ad 25) :: st) := g_getN C (T := TX4) iu_4 25 (fun f => at_25 ad dA σ f) rfl 3 (by decide) hl rfl rfl hd k
theorem gg_25_4 (C : Cx K l D ad dA z0 tt cc own nL R) {index : Nat} (hl : Cond.fieldLink own index "CompositeDecoder$LineFinder" "position" "I" ∈ lw_all) (hd : decode cc pc = .ok (.getfield index, 3)) (k : K σ φ (pc + 3) lv (.int (σ 25 4) :: st)) : K σ φ pc lv (.ref (ad 25) :: st) := g_get C (T := TX4) iu_4 25 (fun f => at_25 ad dA σ f) rfl 4 (by decide) hl rfl rfl hd k
theorem gp_25_4 (C : Cx K l D ad dA z0 tt cc own nL R) {index : Nat} {x : Int32} (hl : Cond.fieldLink own index "CompositeDecoder$LineFinder" "position" "I" ∈ lw_all) (hd : decode cc pc = .ok (.putfield index, 3)) (k : K (va_up σ 25 (upd (σ 25) 4 x)) φ (pc + 3) lv st) : K σ φ pc lv (.int x :: .ref (ad 25) :: st) := g_put C (T := TX4) (ty := .int) iu_4 tyX4 tyX4_ok nmX4 25 (fun f => at_25 ad dA σ f) rfl 4 (by decide) hl rfl rfl rfl rfl rfl (Nat.le_of_ble_eq_true rfl) (fun f => set_25_4 ad dA σ f x) hd k
theorem ggN_25_4 (C : Cx K l D ad dA z0 tt cc own nL R) {host : String} {index : Nat} (hl : Cond.fieldLinkNest own index "CompositeDecoder$LineFinder" "position" "I" host ∈ lw_nest) (hd : decode cc pc = .ok (.getfield index, 3)) (k : K σ φ (pc + 3) lv (.int (σ 25 4) :: st)) : K σ φ pc lv (.ref (ad 25) :: st) := g_getN C (T := TX4) iu_4 25 (fun f => at_25 ad dA σ f) rfl 4 (by decide) hl rfl rfl hd k
theorem gpN_25_4 (C : Cx K l D ad dA z0 tt cc own nL R) {host : String} {index : Nat} {x : Int32} (hl : Cond.fieldLinkNest own index "CompositeDecoder$LineFinder" "position" "I" host ∈ lw_nest) (hd : decode cc pc = .ok (.putfield index, 3)) (k : K (va_up σ 25 (upd (σ 25) 4 x)) φ (pc + 3) lv st) : K σ φ pc lv (.int x :: .ref (ad 25) :: st) := g_putN C (T := TX4) (ty := .int) iu_4 tyX4 tyX4_ok nmX4 25 (fun f => at_25 ad dA σ f) rfl 4 (by decide) hl rfl rfl rfl rfl rfl (Nat.le_of_ble_eq_true rfl) (fun f => set_25_4 ad dA σ f x) hd k
theorem gg_25_5 (C : Cx K l D ad dA z0 tt cc own nL R) {index : Nat} (hl : Cond.fieldLink own index "CompositeDecoder$LineFinder" "hits" "I" ∈ lw_all) (hd : decode cc pc = .ok (.getfield index, 3)) (k : K σ φ (pc + 3) lv (.int (σ 25 5) :: st)) : K σ φ pc lv (.ref (ad 25) :: st) := g_get C (T := TX4) iu_4 25 (fun f => at_25 ad dA σ f) rfl 5 (by decide) hl rfl rfl hd k
theorem gp_25_5 (C : Cx K l D ad dA z0 tt cc own nL R) {index : Nat} {x : Int32} (hl : Cond.fieldLink own index "CompositeDecoder$LineFinder" "hits" "I" ∈ lw_all) (hd : decode cc pc = .ok (.putfield index, 3)) (k : K (va_up σ 25 (upd (σ 25) 5 x)) φ (pc + 3) lv st) : K σ φ pc lv (.int x :: .ref (ad 25) :: st) := g_put C (T := TX4) (ty := .int) iu_4 tyX4 tyX4_ok nmX4 25 (fun f => at_25 ad dA σ f) rfl 5 (by decide) hl rfl rfl rfl rfl rfl (Nat.le_of_ble_eq_true rfl) (fun f => set_25_5 ad dA σ f x) hd k
theorem ggN_25_5 (C : Cx K l D ad dA z0 tt cc own nL R) {host : String} {index : Nat} (hl : Cond.fieldLinkNest own index "CompositeDecoder$LineFinder" "hits" "I" host ∈ lw_nest) (hd : decode cc pc = .ok (.getfield index, 3)) (k : K σ φ (pc + 3) lv (.int (σ 25 5) :: st)) : K σ φ pc lv (.ref (ad 25) :: st) := g_getN C (T := TX4) iu_4 25 (fun f => at_25 ad dA σ f) rfl 5 (by decide) hl rfl rfl hd k
theorem gpN_25_5 (C : Cx K l D ad dA z0 tt cc own nL R) {host : String} {index : Nat} {x : Int32} (hl : Cond.fieldLinkNest own index "CompositeDecoder$LineFinder" "hits" "I" host ∈ lw_nest) (hd : decode cc pc = .ok (.putfield index, 3)) (k : K (va_up σ 25 (upd (σ 25) 5 x)) φ (pc + 3) lv st) : K σ φ pc lv (.int x :: .ref (ad 25) :: st) := g_putN C (T := TX4) (ty := .int) iu_4 tyX4 tyX4_ok nmX4 25 (fun f => at_25 ad dA σ f) rfl 5 (by decide) hl rfl rfl rfl rfl rfl (Nat.le_of_ble_eq_true rfl) (fun f => set_25_5 ad dA σ f x) hd k
theorem gg_25_6 (C : Cx K l D ad dA z0 tt cc own nL R) {index : Nat} (hl : Cond.fieldLink own index "CompositeDecoder$LineFinder" "misses" "I" ∈ lw_all) (hd : decode cc pc = .ok (.getfield index, 3)) (k : K σ φ (pc + 3) lv (.int (σ 25 6) :: st)) : K σ φ pc lv (.ref (ad 25) :: st) := g_get C (T := TX4) iu_4 25 (fun f => at_25 ad dA σ f) rfl 6 (by decide) hl rfl rfl hd k
theorem gp_25_6 (C : Cx K l D ad dA z0 tt cc own nL R) {index : Nat} {x : Int32} (hl : Cond.fieldLink own index "CompositeDecoder$LineFinder" "misses" "I" ∈ lw_all) (hd : decode cc pc = .ok (.putfield index, 3)) (k : K (va_up σ 25 (upd (σ 25) 6 x)) φ (pc + 3) lv st) : K σ φ pc lv (.int x :: .ref (ad 25) :: st) := g_put C (T := TX4) (ty := .int) iu_4 tyX4 tyX4_ok nmX4 25 (fun f => at_25 ad dA σ f) rfl 6 (by decide) hl rfl rfl rfl rfl rfl (Nat.le_of_ble_eq_true rfl) (fun f => set_25_6 ad dA σ f x) hd k
theorem ggN_25_6 (C : Cx K l D ad dA z0 tt cc own nL R) {host : String} {index : Nat} (hl : Cond.fieldLinkNest own index "CompositeDecoder$LineFinder" "misses" "I" host ∈ lw_nest) (hd : decode cc pc = .ok (.getfield index, 3)) (k : K σ φ (pc + 3) lv (.int (σ 25 6) :: st)) : K σ φ pc lv (.ref (ad 25) :: st) := g_getN C (T := TX4) iu_4 25 (fun f => at_25 ad dA σ f) rfl 6 (by decide) hl rfl rfl hd k
theorem gpN_25_6 (C : Cx K l D ad dA z0 tt cc own nL R) {host : String} {index : Nat} {x : Int32} (hl : Cond.fieldLinkNest own index "CompositeDecoder$LineFinder" "misses" "I" host ∈ lw_nest) (hd : decode cc pc = .ok (.putfield index, 3)) (k : K (va_up σ 25 (upd (σ 25) 6 x)) φ (pc + 3) lv st) : K σ φ pc lv (.int x :: .ref (ad 25) :: st) := g_putN C (T := TX4) (ty := .int) iu_4 tyX4 tyX4_ok nmX4 25 (fun f => at_25 ad dA σ f) rfl 6 (by decide) hl rfl rfl rfl rfl rfl (Nat.le_of_ble_eq_true rfl) (fun f => set_25_6 ad dA σ f x) hd k
theorem gg_25_7 (C : Cx K l D ad dA z0 tt cc own nL R) {index : Nat} (hl : Cond.fieldLink own index "CompositeDecoder$LineFinder" "isLocked" "Z" ∈ lw_all) (hd : decode cc pc = .ok (.getfield index, 3)) (k : K σ φ (pc + 3) lv (.int (σ 25 7) :: st)) : K σ φ pc lv (.ref (ad 25) :: st) := g_get C (T := TX4) iu_4 25 (fun f => at_25 ad dA σ f) rfl 7 (by decide) hl rfl rfl hd k
theorem gp_25_7 (C : Cx K l D ad dA z0 tt cc own nL R) {index : Nat} {x : Int32} (hl : Cond.fieldLink own index "CompositeDecoder$LineFinder" "isLocked" "Z" ∈ lw_all) (hz : x = 0 ∨ x = 1) (hd : decode cc pc = .ok (.putfield index, 3)) (k : K (va_up σ 25 (upd (σ 25) 7 x)) φ (pc + 3) lv st) : K σ φ pc lv (.int x :: .ref (ad 25) :: st) := g_put C (T := TX4) (ty := .boolean) iu_4 tyX4 tyX4_ok nmX4 25 (fun f => at_25 ad dA σ f) rfl 7 (by decide) hl rfl rfl rfl (lv_narrowZ hz).1 (lv_narrowZ hz).2.1 (Nat.le_of_ble_eq_true rfl) (fun f => set_25_7 ad dA σ f x) hd k
theorem ggN_25_7 (C : Cx K l D ad dA z0 tt cc own nL R) {host : String} {index : Nat} (hl : Cond.fieldLinkNest own index "CompositeDecoder$LineFinder" "isLocked" "Z" host ∈ lw_nest) (hd : decode cc pc = .ok (.getfield index, 3)) (k : K σ φ (pc + 3) lv (.int (σ 25 7) :: st)) : K σ φ pc lv (.ref (ad 25) :: st) := g_getN C (T := TX4) iu_4 25 (fun f => at_25 ad dA σ f) rfl 7 (by decide) hl rfl rfl hd k
theorem gpN_25_7 (C : Cx K l D ad dA z0 tt cc own nL R) {host : String} {index : Nat} {x : Int32} (hl : Cond.fieldLinkNest own index "CompositeDecoder$LineFinder" "isLocked" "Z" host ∈ lw_nest) (hz : x = 0 ∨ x = 1) (hd : decode cc pc = .ok (.putfield index, 3)) (k : K (va_up σ 25 (upd (σ 25) 7 x)) φ (pc + 3) lv st) : K σ φ pc lv (.int x :: .ref (ad 25) :: st) := g_putN C (T := TX4) (ty := .boolean) iu_4 tyX4 tyX4_ok nmX4 25 (fun f => at_25 ad dA σ f) rfl 7 (by decide) hl rfl rfl rfl (lv_narrowZ hz).1 (lv_narrowZ hz).2.1 (Nat.le_of_ble_eq_true rfl) (fun f => set_25_7 ad dA σ f x) hd k
theorem ld_26 (C : Cx K l D ad dA z0 tt cc own nL R) {i : Int32} (hin : vp_in i 8) (hd : decode cc pc = .ok (.iaload, 1)) (k : K σ φ (pc + 1) lv (.int (σ 26 i.toNatClampNeg) :: st)) : K σ φ pc lv (.int i :: .ref (ad 26) :: st) := g_iald C 26 (fun f => at_26 ad dA σ f) hin hd k
theorem sd_26 (C : Cx K l D ad dA z0 tt cc own nL R) {i x : Int32} (hin : vp_in i 8) (hd : decode cc pc = .ok (.iastore, 1)) (k : K (va_up σ 26 (upd (σ 26) i.toNatClampNeg x)) φ (pc + 1) lv st) : K σ φ pc lv (.int x :: .int i :: .ref (ad 26) :: st) := g_iast C 26 (fun f => at_26 ad dA σ f) hin (fun f => set_26 ad dA σ f _) hd k
theorem ld_27 (C : Cx K l D ad dA z0 tt cc own nL R) {i : Int32} (hin : vp_in i 8) (hd : decode cc pc = .ok (.iaload, 1)) (k : K σ φ (pc + 1) lv (.int (σ 27 i.toNatClampNeg) :: st)) : K σ φ pc lv (.int i :: .ref (ad 27) :: st) := g_iald C 27 (fun f => at_27 ad dA σ f) hin hd k
theorem sd_27 (C : Cx K l D ad dA z0 tt cc own nL R) {i x : Int32} (hin : vp_in i 8) (hd : decode cc pc = .ok (.iastore, 1)) (k : K (va_up σ 27 (upd (σ 27) i.toNatClampNeg x)) φ (pc + 1) lv st) : K σ φ pc lv (.int x :: .int i :: .ref (ad 27) :: st) := g_iast C 27 (fun f => at_27 ad dA σ f) hin (fun f => set_27 ad dA σ f _) hd k
theorem ld_28 (C : Cx K l D ad dA z0 tt cc own nL R) {i : Int32} (hin : vp_in i 8) (hd : decode cc pc = .ok (.iaload, 1)) (k : K σ φ (pc + 1) lv (.int (σ 28 i.toNatClampNeg) :: st)) : K σ φ pc lv (.int i :: .ref (ad 28) :: st) := g_iald C 28 (fun f => at_28 ad dA σ f) hin hd k
theorem sd_28 (C : Cx K l D ad dA z0 tt cc own nL R) {i x : Int32} (hin : vp_in i 8) (hd : decode cc pc = .ok (.iastore, 1)) (k : K (va_up σ 28 (upd (σ 28) i.toNatClampNeg x)) φ (pc + 1) lv st) : K σ φ pc lv (.int x :: .int i :: .ref (ad 28) :: st) := g_iast C 28 (fun f => at_28 ad dA σ f) hin (fun f => set_28 ad dA σ f _) hd k
theorem ld_29 (C : Cx K l D ad dA z0 tt cc own nL R) {i : Int32} (hin : vp_in i 8) (hd : decode cc pc = .ok (.baload, 1)) (k : K σ φ (pc + 1) lv (.int (σ 29 i.toNatClampNeg) :: st)) : K σ φ pc lv (.int i :: .ref (ad 29) :: st) := g_zald C 29 (fun f => at_29 ad dA σ f) hin hd k
theorem sd_29 (C : Cx K l D ad dA z0 tt cc own nL R) {i x : Int32} (hin : vp_in i 8) (hd : decode cc pc = .ok (.bastore, 1)) (k : K (va_up σ 29 (upd (σ 29) i.toNatClampNeg (vp_nar .boolean x))) φ (pc + 1) lv st) : K σ φ pc lv (.int x :: .int i :: .ref (ad 29) :: st) := g_zast C 29 (fun f => at_29 ad dA σ f) hin (fun f => set_29 ad dA σ f _) hd k
theorem gg_30_0 (C : Cx K l D ad dA z0 tt cc own nL R) {index : Nat} (hl : Cond.fieldLink own index "CompositeDecoder$Bursts" "sines" "[I" ∈ lw_all) (hd : decode cc pc = .ok (.getfield index, 3)) (k : K σ φ (pc + 3) lv (.ref (ad 31) :: st)) : K σ φ pc lv (.ref (ad 30) :: st) := g_get C (T := TX1) iu_1 30 (fun f => at_30 ad dA σ f) rfl 0 (by decide) hl rfl rfl hd k
theorem ggN_30_0 (C : Cx K l D ad dA z0 tt cc own nL R) {host : String} {index : Nat} (hl : Cond.fieldLinkNest own index "CompositeDecoder$Bursts" "sines" "[I" host ∈ lw_nest) (hd : decode cc pc = .ok (.getfield index, 3)) (k : K σ φ (pc + 3) lv (.ref (ad 31) :: st)) : K σ φ pc lv (.ref (ad 30) :: st) := g_getN C (T := TX1) iu_1 30 (fun f => at_30 ad dA σ f) rfl 0 (by decide) hl rfl rfl hd k
theorem gg_30_1 (C : Cx K l D ad dA z0 tt cc own nL R) {index : Nat} (hl : Cond.fieldLink own index "CompositeDecoder$Bursts" "cosines" "[I" ∈ lw_all) (hd : decode cc pc = .ok (.getfield index, 3)) (k : K σ φ (pc + 3) lv (.ref (ad 32) :: st)) : K σ φ pc lv (.ref (ad 30) :: st) := g_get C (T := TX1) iu_1 30 (fun f => at_30 ad dA σ f) rfl 1 (by decide) hl rfl rfl hd k
theorem ggN_30_1 (C : Cx K l D ad dA z0 tt cc own nL R) {host : String} {index : Nat} (hl : Cond.fieldLinkNest own index "CompositeDecoder$Bursts" "cosines" "[I" host ∈ lw_nest) (hd : decode cc pc = .ok (.getfield index, 3)) (k : K σ φ (pc + 3) lv (.ref (ad 32) :: st)) : K σ φ pc lv (.ref (ad 30) :: st) := g_getN C (T := TX1) iu_1 30 (fun f => at_30 ad dA σ f) rfl 1 (by decide) hl rfl rfl hd k
theorem gg_30_2 (C : Cx K l D ad dA z0 tt cc own nL R) {index : Nat} (hl : Cond.fieldLink own index "CompositeDecoder$Bursts" "good" "[Z" ∈ lw_all) (hd : decode cc pc = .ok (.getfield index, 3)) (k : K σ φ (pc + 3) lv (.ref (ad 33) :: st)) : K σ φ pc lv (.ref (ad 30) :: st) := g_get C (T := TX1) iu_1 30 (fun f => at_30 ad dA σ f) rfl 2 (by decide) hl rfl rfl hd k
theorem ggN_30_2 (C : Cx K l D ad dA z0 tt cc own nL R) {host : String} {index : Nat} (hl : Cond.fieldLinkNest own index "CompositeDecoder$Bursts" "good" "[Z" host ∈ lw_nest) (hd : decode cc pc = .ok (.getfield index, 3)) (k : K σ φ (pc + 3) lv (.ref (ad 33) :: st)) : K σ φ pc lv (.ref (ad 30) :: st) := g_getN C (T := TX1) iu_1 30 (fun f => at_30 ad dA σ f) rfl 2 (by decide) hl rfl rfl hd k
theorem gg_30_3 (C : Cx K l D ad dA z0 tt cc own nL R) {index : Nat} (hl : Cond.fieldLink own index "CompositeDecoder$Bursts" "colorOn" "[Z" ∈ lw_all) (hd : decode cc pc = .ok (.getfield index, 3)) (k : K σ φ (pc + 3) lv (.ref (ad 34) :: st)) : K σ φ pc lv (.ref (ad 30) :: st) := g_get C (T := TX1) iu_1 30 (fun f => at_30 ad dA σ f) rfl 3 (by decide) hl rfl rfl hd k
theorem ggN_30_3 (C : Cx K l D ad dA z0 tt cc own nL R) {host : String} {index : Nat} (hl : Cond.fieldLinkNest own index "CompositeDecoder$Bursts" "colorOn" "[Z" host ∈ lw_nest) (hd : decode cc pc = .ok (.getfield index, 3)) (k : K σ φ (pc + 3) lv (.ref (ad 34) :: st)) : K σ φ pc lv (.ref (ad 30) :: st) := g_getN C (T := TX1) iu_1 30 (fun f => at_30 ad dA σ f) rfl 3 (by decide) hl rfl rfl hd k
theorem gg_30_4 (C : Cx K l D ad dA z0 tt cc own nL R) {index : Nat} (hl : Cond.fieldLink own index "CompositeDecoder$Bursts" "turnedPairs" "I" ∈ lw_all) (hd : decode cc pc = .ok (.getfield index, 3)) (k : K σ φ (pc + 3) lv (.int (σ 30 4) :: st)) : K σ φ pc lv (.ref (ad 30) :: st) := g_get C (T := TX1) iu_1 30 (fun f => at_30 ad dA σ f) rfl 4 (by decide) hl rfl rfl hd k
theorem gp_30_4 (C : Cx K l D ad dA z0 tt cc own nL R) {index : Nat} {x : Int32} (hl : Cond.fieldLink own index "CompositeDecoder$Bursts" "turnedPairs" "I" ∈ lw_all) (hd : decode cc pc = .ok (.putfield index, 3)) (k : K (va_up σ 30 (upd (σ 30) 4 x)) φ (pc + 3) lv st) : K σ φ pc lv (.int x :: .ref (ad 30) :: st) := g_put C (T := TX1) (ty := .int) iu_1 tyX1 tyX1_ok nmX1 30 (fun f => at_30 ad dA σ f) rfl 4 (by decide) hl rfl rfl rfl rfl rfl (Nat.le_of_ble_eq_true rfl) (fun f => set_30_4 ad dA σ f x) hd k
theorem ggN_30_4 (C : Cx K l D ad dA z0 tt cc own nL R) {host : String} {index : Nat} (hl : Cond.fieldLinkNest own index "CompositeDecoder$Bursts" "turnedPairs" "I" host ∈ lw_nest) (hd : decode cc pc = .ok (.getfield index, 3)) (k : K σ φ (pc + 3) lv (.int (σ 30 4) :: st)) : K σ φ pc lv (.ref (ad 30) :: st) := g_getN C (T := TX1) iu_1 30 (fun f => at_30 ad dA σ f) rfl 4 (by decide) hl rfl rfl hd k
theorem gpN_30_4 (C : Cx K l D ad dA z0 tt cc own nL R) {host : String} {index : Nat} {x : Int32} (hl : Cond.fieldLinkNest own index "CompositeDecoder$Bursts" "turnedPairs" "I" host ∈ lw_nest) (hd : decode cc pc = .ok (.putfield index, 3)) (k : K (va_up σ 30 (upd (σ 30) 4 x)) φ (pc + 3) lv st) : K σ φ pc lv (.int x :: .ref (ad 30) :: st) := g_putN C (T := TX1) (ty := .int) iu_1 tyX1 tyX1_ok nmX1 30 (fun f => at_30 ad dA σ f) rfl 4 (by decide) hl rfl rfl rfl rfl rfl (Nat.le_of_ble_eq_true rfl) (fun f => set_30_4 ad dA σ f x) hd k
theorem gg_30_5 (C : Cx K l D ad dA z0 tt cc own nL R) {index : Nat} (hl : Cond.fieldLink own index "CompositeDecoder$Bursts" "steadyPairs" "I" ∈ lw_all) (hd : decode cc pc = .ok (.getfield index, 3)) (k : K σ φ (pc + 3) lv (.int (σ 30 5) :: st)) : K σ φ pc lv (.ref (ad 30) :: st) := g_get C (T := TX1) iu_1 30 (fun f => at_30 ad dA σ f) rfl 5 (by decide) hl rfl rfl hd k
theorem gp_30_5 (C : Cx K l D ad dA z0 tt cc own nL R) {index : Nat} {x : Int32} (hl : Cond.fieldLink own index "CompositeDecoder$Bursts" "steadyPairs" "I" ∈ lw_all) (hd : decode cc pc = .ok (.putfield index, 3)) (k : K (va_up σ 30 (upd (σ 30) 5 x)) φ (pc + 3) lv st) : K σ φ pc lv (.int x :: .ref (ad 30) :: st) := g_put C (T := TX1) (ty := .int) iu_1 tyX1 tyX1_ok nmX1 30 (fun f => at_30 ad dA σ f) rfl 5 (by decide) hl rfl rfl rfl rfl rfl (Nat.le_of_ble_eq_true rfl) (fun f => set_30_5 ad dA σ f x) hd k
theorem ggN_30_5 (C : Cx K l D ad dA z0 tt cc own nL R) {host : String} {index : Nat} (hl : Cond.fieldLinkNest own index "CompositeDecoder$Bursts" "steadyPairs" "I" host ∈ lw_nest) (hd : decode cc pc = .ok (.getfield index, 3)) (k : K σ φ (pc + 3) lv (.int (σ 30 5) :: st)) : K σ φ pc lv (.ref (ad 30) :: st) := g_getN C (T := TX1) iu_1 30 (fun f => at_30 ad dA σ f) rfl 5 (by decide) hl rfl rfl hd k
theorem gpN_30_5 (C : Cx K l D ad dA z0 tt cc own nL R) {host : String} {index : Nat} {x : Int32} (hl : Cond.fieldLinkNest own index "CompositeDecoder$Bursts" "steadyPairs" "I" host ∈ lw_nest) (hd : decode cc pc = .ok (.putfield index, 3)) (k : K (va_up σ 30 (upd (σ 30) 5 x)) φ (pc + 3) lv st) : K σ φ pc lv (.int x :: .ref (ad 30) :: st) := g_putN C (T := TX1) (ty := .int) iu_1 tyX1 tyX1_ok nmX1 30 (fun f => at_30 ad dA σ f) rfl 5 (by decide) hl rfl rfl rfl rfl rfl (Nat.le_of_ble_eq_true rfl) (fun f => set_30_5 ad dA σ f x) hd k
theorem ld_31 (C : Cx K l D ad dA z0 tt cc own nL R) {i : Int32} (hin : vp_in i 8) (hd : decode cc pc = .ok (.iaload, 1)) (k : K σ φ (pc + 1) lv (.int (σ 31 i.toNatClampNeg) :: st)) : K σ φ pc lv (.int i :: .ref (ad 31) :: st) := g_iald C 31 (fun f => at_31 ad dA σ f) hin hd k
theorem sd_31 (C : Cx K l D ad dA z0 tt cc own nL R) {i x : Int32} (hin : vp_in i 8) (hd : decode cc pc = .ok (.iastore, 1)) (k : K (va_up σ 31 (upd (σ 31) i.toNatClampNeg x)) φ (pc + 1) lv st) : K σ φ pc lv (.int x :: .int i :: .ref (ad 31) :: st) := g_iast C 31 (fun f => at_31 ad dA σ f) hin (fun f => set_31 ad dA σ f _) hd k
theorem ld_32 (C : Cx K l D ad dA z0 tt cc own nL R) {i : Int32} (hin : vp_in i 8) (hd : decode cc pc = .ok (.iaload, 1)) (k : K σ φ (pc + 1) lv (.int (σ 32 i.toNatClampNeg) :: st)) : K σ φ pc lv (.int i :: .ref (ad 32) :: st) := g_iald C 32 (fun f => at_32 ad dA σ f) hin hd k
theorem sd_32 (C : Cx K l D ad dA z0 tt cc own nL R) {i x : Int32} (hin : vp_in i 8) (hd : decode cc pc = .ok (.iastore, 1)) (k : K (va_up σ 32 (upd (σ 32) i.toNatClampNeg x)) φ (pc + 1) lv st) : K σ φ pc lv (.int x :: .int i :: .ref (ad 32) :: st) := g_iast C 32 (fun f => at_32 ad dA σ f) hin (fun f => set_32 ad dA σ f _) hd k
theorem ld_33 (C : Cx K l D ad dA z0 tt cc own nL R) {i : Int32} (hin : vp_in i 8) (hd : decode cc pc = .ok (.baload, 1)) (k : K σ φ (pc + 1) lv (.int (σ 33 i.toNatClampNeg) :: st)) : K σ φ pc lv (.int i :: .ref (ad 33) :: st) := g_zald C 33 (fun f => at_33 ad dA σ f) hin hd k
theorem sd_33 (C : Cx K l D ad dA z0 tt cc own nL R) {i x : Int32} (hin : vp_in i 8) (hd : decode cc pc = .ok (.bastore, 1)) (k : K (va_up σ 33 (upd (σ 33) i.toNatClampNeg (vp_nar .boolean x))) φ (pc + 1) lv st) : K σ φ pc lv (.int x :: .int i :: .ref (ad 33) :: st) := g_zast C 33 (fun f => at_33 ad dA σ f) hin (fun f => set_33 ad dA σ f _) hd k
theorem ld_34 (C : Cx K l D ad dA z0 tt cc own nL R) {i : Int32} (hin : vp_in i 8) (hd : decode cc pc = .ok (.baload, 1)) (k : K σ φ (pc + 1) lv (.int (σ 34 i.toNatClampNeg) :: st)) : K σ φ pc lv (.int i :: .ref (ad 34) :: st) := g_zald C 34 (fun f => at_34 ad dA σ f) hin hd k
theorem sd_34 (C : Cx K l D ad dA z0 tt cc own nL R) {i x : Int32} (hin : vp_in i 8) (hd : decode cc pc = .ok (.bastore, 1)) (k : K (va_up σ 34 (upd (σ 34) i.toNatClampNeg (vp_nar .boolean x))) φ (pc + 1) lv st) : K σ φ pc lv (.int x :: .int i :: .ref (ad 34) :: st) := g_zast C 34 (fun f => at_34 ad dA σ f) hin (fun f => set_34 ad dA σ f _) hd k
theorem gg_35_0 (C : Cx K l D ad dA z0 tt cc own nL R) {index : Nat} (hl : Cond.fieldLink own index "CompositeDecoder$PhaseReference" "sines" "[F" ∈ lw_all) (hd : decode cc pc = .ok (.getfield index, 3)) (k : K σ φ (pc + 3) lv (.ref (ad 36) :: st)) : K σ φ pc lv (.ref (ad 35) :: st) := g_get C (T := TX6) iu_6 35 (fun f => at_35 ad dA σ f) rfl 0 (by decide) hl rfl rfl hd k
theorem ggN_35_0 (C : Cx K l D ad dA z0 tt cc own nL R) {host : String} {index : Nat} (hl : Cond.fieldLinkNest own index "CompositeDecoder$PhaseReference" "sines" "[F" host ∈ lw_nest) (hd : decode cc pc = .ok (.getfield index, 3)) (k : K σ φ (pc + 3) lv (.ref (ad 36) :: st)) : K σ φ pc lv (.ref (ad 35) :: st) := g_getN C (T := TX6) iu_6 35 (fun f => at_35 ad dA σ f) rfl 0 (by decide) hl rfl rfl hd k
theorem gg_35_1 (C : Cx K l D ad dA z0 tt cc own nL R) {index : Nat} (hl : Cond.fieldLink own index "CompositeDecoder$PhaseReference" "cosines" "[F" ∈ lw_all) (hd : decode cc pc = .ok (.getfield index, 3)) (k : K σ φ (pc + 3) lv (.ref (ad 37) :: st)) : K σ φ pc lv (.ref (ad 35) :: st) := g_get C (T := TX6) iu_6 35 (fun f => at_35 ad dA σ f) rfl 1 (by decide) hl rfl rfl hd k
theorem ggN_35_1 (C : Cx K l D ad dA z0 tt cc own nL R) {host : String} {index : Nat} (hl : Cond.fieldLinkNest own index "CompositeDecoder$PhaseReference" "cosines" "[F" host ∈ lw_nest) (hd : decode cc pc = .ok (.getfield index, 3)) (k : K σ φ (pc + 3) lv (.ref (ad 37) :: st)) : K σ φ pc lv (.ref (ad 35) :: st) := g_getN C (T := TX6) iu_6 35 (fun f => at_35 ad dA σ f) rfl 1 (by decide) hl rfl rfl hd k
theorem ld_36 (C : Cx K l D ad dA z0 tt cc own nL R) {i : Int32} (hin : vp_in i 8) (hd : decode cc pc = .ok (.faload, 1)) (k : K σ φ (pc + 1) lv (.float (φ 36 i.toNatClampNeg) :: st)) : K σ φ pc lv (.int i :: .ref (ad 36) :: st) := g_fald C 36 (fun f => at_36 ad dA σ f) hin hd k
theorem sd_36 (C : Cx K l D ad dA z0 tt cc own nL R) {i : Int32} {x : UInt32} (hin : vp_in i 8) (hd : decode cc pc = .ok (.fastore, 1)) (k : K σ (va_up φ 36 (vf_upd (φ 36) i.toNatClampNeg x)) (pc + 1) lv st) : K σ φ pc lv (.float x :: .int i :: .ref (ad 36) :: st) := g_fast C 36 (fun f => at_36 ad dA σ f) hin (fun f g => set_36 ad dA σ f g) hd k
theorem ld_37 (C : Cx K l D ad dA z0 tt cc own nL R) {i : Int32} (hin : vp_in i 8) (hd : decode cc pc = .ok (.faload, 1)) (k : K σ φ (pc + 1) lv (.float (φ 37 i.toNatClampNeg) :: st)) : K σ φ pc lv (.int i :: .ref (ad 37) :: st) := g_fald C 37 (fun f => at_37 ad dA σ f) hin hd k
theorem sd_37 (C : Cx K l D ad dA z0 tt cc own nL R) {i : Int32} {x : UInt32} (hin : vp_in i 8) (hd : decode cc pc = .ok (.fastore, 1)) (k : K σ (va_up φ 37 (vf_upd (φ 37) i.toNatClampNeg x)) (pc + 1) lv st) : K σ φ pc lv (.float x :: .int i :: .ref (ad 37) :: st) := g_fast C 37 (fun f => at_37 ad dA σ f) hin (fun f g => set_37 ad dA σ f g) hd k
theorem gg_38_0 (C : Cx K l D ad dA z0 tt cc own nL R) {index : Nat} (hl : Cond.fieldLink own index "CompositeDecoder$Combs" "sums" "[I" ∈ lw_all) (hd : decode cc pc = .ok (.getfield index, 3)) (k : K σ φ (pc + 3) lv (.ref (ad 39) :: st)) : K σ φ pc lv (.ref (ad 38) :: st) := g_get C (T := TX3) iu_3 38 (fun f => at_38 ad dA σ f) rfl 0 (by decide) hl rfl rfl hd k
theorem ggN_38_0 (C : Cx K l D ad dA z0 tt cc own nL R) {host : String} {index : Nat} (hl : Cond.fieldLinkNest own index "CompositeDecoder$Combs" "sums" "[I" host ∈ lw_nest) (hd : decode cc pc = .ok (.getfield index, 3)) (k : K σ φ (pc + 3) lv (.ref (ad 39) :: st)) : K σ φ pc lv (.ref (ad 38) :: st) := g_getN C (T := TX3) iu_3 38 (fun f => at_38 ad dA σ f) rfl 0 (by decide) hl rfl rfl hd k
theorem gg_38_1 (C : Cx K l D ad dA z0 tt cc own nL R) {index : Nat} (hl : Cond.fieldLink own index "CompositeDecoder$Combs" "lumas" "[I" ∈ lw_all) (hd : decode cc pc = .ok (.getfield index, 3)) (k : K σ φ (pc + 3) lv (.ref (ad 40) :: st)) : K σ φ pc lv (.ref (ad 38) :: st) := g_get C (T := TX3) iu_3 38 (fun f => at_38 ad dA σ f) rfl 1 (by decide) hl rfl rfl hd k
theorem ggN_38_1 (C : Cx K l D ad dA z0 tt cc own nL R) {host : String} {index : Nat} (hl : Cond.fieldLinkNest own index "CompositeDecoder$Combs" "lumas" "[I" host ∈ lw_nest) (hd : decode cc pc = .ok (.getfield index, 3)) (k : K σ φ (pc + 3) lv (.ref (ad 40) :: st)) : K σ φ pc lv (.ref (ad 38) :: st) := g_getN C (T := TX3) iu_3 38 (fun f => at_38 ad dA σ f) rfl 1 (by decide) hl rfl rfl hd k
theorem gg_38_2 (C : Cx K l D ad dA z0 tt cc own nL R) {index : Nat} (hl : Cond.fieldLink own index "CompositeDecoder$Combs" "ways" "[I" ∈ lw_all) (hd : decode cc pc = .ok (.getfield index, 3)) (k : K σ φ (pc + 3) lv (.ref (ad 41) :: st)) : K σ φ pc lv (.ref (ad 38) :: st) := g_get C (T := TX3) iu_3 38 (fun f => at_38 ad dA σ f) rfl 2 (by decide) hl rfl rfl hd k
theorem ggN_38_2 (C : Cx K l D ad dA z0 tt cc own nL R) {host : String} {index : Nat} (hl : Cond.fieldLinkNest own index "CompositeDecoder$Combs" "ways" "[I" host ∈ lw_nest) (hd : decode cc pc = .ok (.getfield index, 3)) (k : K σ φ (pc + 3) lv (.ref (ad 41) :: st)) : K σ φ pc lv (.ref (ad 38) :: st) := g_getN C (T := TX3) iu_3 38 (fun f => at_38 ad dA σ f) rfl 2 (by decide) hl rfl rfl hd k
theorem gg_38_3 (C : Cx K l D ad dA z0 tt cc own nL R) {index : Nat} (hl : Cond.fieldLink own index "CompositeDecoder$Combs" "sines" "[I" ∈ lw_all) (hd : decode cc pc = .ok (.getfield index, 3)) (k : K σ φ (pc + 3) lv (.ref (ad 42) :: st)) : K σ φ pc lv (.ref (ad 38) :: st) := g_get C (T := TX3) iu_3 38 (fun f => at_38 ad dA σ f) rfl 3 (by decide) hl rfl rfl hd k
theorem ggN_38_3 (C : Cx K l D ad dA z0 tt cc own nL R) {host : String} {index : Nat} (hl : Cond.fieldLinkNest own index "CompositeDecoder$Combs" "sines" "[I" host ∈ lw_nest) (hd : decode cc pc = .ok (.getfield index, 3)) (k : K σ φ (pc + 3) lv (.ref (ad 42) :: st)) : K σ φ pc lv (.ref (ad 38) :: st) := g_getN C (T := TX3) iu_3 38 (fun f => at_38 ad dA σ f) rfl 3 (by decide) hl rfl rfl hd k
theorem gg_38_4 (C : Cx K l D ad dA z0 tt cc own nL R) {index : Nat} (hl : Cond.fieldLink own index "CompositeDecoder$Combs" "cosines" "[I" ∈ lw_all) (hd : decode cc pc = .ok (.getfield index, 3)) (k : K σ φ (pc + 3) lv (.ref (ad 43) :: st)) : K σ φ pc lv (.ref (ad 38) :: st) := g_get C (T := TX3) iu_3 38 (fun f => at_38 ad dA σ f) rfl 4 (by decide) hl rfl rfl hd k
theorem ggN_38_4 (C : Cx K l D ad dA z0 tt cc own nL R) {host : String} {index : Nat} (hl : Cond.fieldLinkNest own index "CompositeDecoder$Combs" "cosines" "[I" host ∈ lw_nest) (hd : decode cc pc = .ok (.getfield index, 3)) (k : K σ φ (pc + 3) lv (.ref (ad 43) :: st)) : K σ φ pc lv (.ref (ad 38) :: st) := g_getN C (T := TX3) iu_3 38 (fun f => at_38 ad dA σ f) rfl 4 (by decide) hl rfl rfl hd k
theorem ld_39 (C : Cx K l D ad dA z0 tt cc own nL R) {i : Int32} (hin : vp_in i 80) (hd : decode cc pc = .ok (.iaload, 1)) (k : K σ φ (pc + 1) lv (.int (σ 39 i.toNatClampNeg) :: st)) : K σ φ pc lv (.int i :: .ref (ad 39) :: st) := g_iald C 39 (fun f => at_39 ad dA σ f) hin hd k
theorem sd_39 (C : Cx K l D ad dA z0 tt cc own nL R) {i x : Int32} (hin : vp_in i 80) (hd : decode cc pc = .ok (.iastore, 1)) (k : K (va_up σ 39 (upd (σ 39) i.toNatClampNeg x)) φ (pc + 1) lv st) : K σ φ pc lv (.int x :: .int i :: .ref (ad 39) :: st) := g_iast C 39 (fun f => at_39 ad dA σ f) hin (fun f => set_39 ad dA σ f _) hd k
theorem ld_40 (C : Cx K l D ad dA z0 tt cc own nL R) {i : Int32} (hin : vp_in i 80) (hd : decode cc pc = .ok (.iaload, 1)) (k : K σ φ (pc + 1) lv (.int (σ 40 i.toNatClampNeg) :: st)) : K σ φ pc lv (.int i :: .ref (ad 40) :: st) := g_iald C 40 (fun f => at_40 ad dA σ f) hin hd k
theorem sd_40 (C : Cx K l D ad dA z0 tt cc own nL R) {i x : Int32} (hin : vp_in i 80) (hd : decode cc pc = .ok (.iastore, 1)) (k : K (va_up σ 40 (upd (σ 40) i.toNatClampNeg x)) φ (pc + 1) lv st) : K σ φ pc lv (.int x :: .int i :: .ref (ad 40) :: st) := g_iast C 40 (fun f => at_40 ad dA σ f) hin (fun f => set_40 ad dA σ f _) hd k
theorem ld_41 (C : Cx K l D ad dA z0 tt cc own nL R) {i : Int32} (hin : vp_in i 80) (hd : decode cc pc = .ok (.iaload, 1)) (k : K σ φ (pc + 1) lv (.int (σ 41 i.toNatClampNeg) :: st)) : K σ φ pc lv (.int i :: .ref (ad 41) :: st) := g_iald C 41 (fun f => at_41 ad dA σ f) hin hd k
theorem sd_41 (C : Cx K l D ad dA z0 tt cc own nL R) {i x : Int32} (hin : vp_in i 80) (hd : decode cc pc = .ok (.iastore, 1)) (k : K (va_up σ 41 (upd (σ 41) i.toNatClampNeg x)) φ (pc + 1) lv st) : K σ φ pc lv (.int x :: .int i :: .ref (ad 41) :: st) := g_iast C 41 (fun f => at_41 ad dA σ f) hin (fun f => set_41 ad dA σ f _) hd k
theorem ld_42 (C : Cx K l D ad dA z0 tt cc own nL R) {i : Int32} (hin : vp_in i 80) (hd : decode cc pc = .ok (.iaload, 1)) (k : K σ φ (pc + 1) lv (.int (σ 42 i.toNatClampNeg) :: st)) : K σ φ pc lv (.int i :: .ref (ad 42) :: st) := g_iald C 42 (fun f => at_42 ad dA σ f) hin hd k
theorem sd_42 (C : Cx K l D ad dA z0 tt cc own nL R) {i x : Int32} (hin : vp_in i 80) (hd : decode cc pc = .ok (.iastore, 1)) (k : K (va_up σ 42 (upd (σ 42) i.toNatClampNeg x)) φ (pc + 1) lv st) : K σ φ pc lv (.int x :: .int i :: .ref (ad 42) :: st) := g_iast C 42 (fun f => at_42 ad dA σ f) hin (fun f => set_42 ad dA σ f _) hd k
theorem ld_43 (C : Cx K l D ad dA z0 tt cc own nL R) {i : Int32} (hin : vp_in i 80) (hd : decode cc pc = .ok (.iaload, 1)) (k : K σ φ (pc + 1) lv (.int (σ 43 i.toNatClampNeg) :: st)) : K σ φ pc lv (.int i :: .ref (ad 43) :: st) := g_iald C 43 (fun f => at_43 ad dA σ f) hin hd k
theorem sd_43 (C : Cx K l D ad dA z0 tt cc own nL R) {i x : Int32} (hin : vp_in i 80) (hd : decode cc pc = .ok (.iastore, 1)) (k : K (va_up σ 43 (upd (σ 43) i.toNatClampNeg x)) φ (pc + 1) lv st) : K σ φ pc lv (.int x :: .int i :: .ref (ad 43) :: st) := g_iast C 43 (fun f => at_43 ad dA σ f) hin (fun f => set_43 ad dA σ f _) hd k
theorem gg_44_0 (C : Cx K l D ad dA z0 tt cc own nL R) {index : Nat} (hl : Cond.fieldLink own index "CompositeDecoder$Colors" "rawUs" "[F" ∈ lw_all) (hd : decode cc pc = .ok (.getfield index, 3)) (k : K σ φ (pc + 3) lv (.ref (ad 45) :: st)) : K σ φ pc lv (.ref (ad 44) :: st) := g_get C (T := TX2) iu_2 44 (fun f => at_44 ad dA σ f) rfl 0 (by decide) hl rfl rfl hd k
theorem ggN_44_0 (C : Cx K l D ad dA z0 tt cc own nL R) {host : String} {index : Nat} (hl : Cond.fieldLinkNest own index "CompositeDecoder$Colors" "rawUs" "[F" host ∈ lw_nest) (hd : decode cc pc = .ok (.getfield index, 3)) (k : K σ φ (pc + 3) lv (.ref (ad 45) :: st)) : K σ φ pc lv (.ref (ad 44) :: st) := g_getN C (T := TX2) iu_2 44 (fun f => at_44 ad dA σ f) rfl 0 (by decide) hl rfl rfl hd k
theorem gg_44_1 (C : Cx K l D ad dA z0 tt cc own nL R) {index : Nat} (hl : Cond.fieldLink own index "CompositeDecoder$Colors" "rawVs" "[F" ∈ lw_all) (hd : decode cc pc = .ok (.getfield index, 3)) (k : K σ φ (pc + 3) lv (.ref (ad 46) :: st)) : K σ φ pc lv (.ref (ad 44) :: st) := g_get C (T := TX2) iu_2 44 (fun f => at_44 ad dA σ f) rfl 1 (by decide) hl rfl rfl hd k
theorem ggN_44_1 (C : Cx K l D ad dA z0 tt cc own nL R) {host : String} {index : Nat} (hl : Cond.fieldLinkNest own index "CompositeDecoder$Colors" "rawVs" "[F" host ∈ lw_nest) (hd : decode cc pc = .ok (.getfield index, 3)) (k : K σ φ (pc + 3) lv (.ref (ad 46) :: st)) : K σ φ pc lv (.ref (ad 44) :: st) := g_getN C (T := TX2) iu_2 44 (fun f => at_44 ad dA σ f) rfl 1 (by decide) hl rfl rfl hd k
theorem gg_44_2 (C : Cx K l D ad dA z0 tt cc own nL R) {index : Nat} (hl : Cond.fieldLink own index "CompositeDecoder$Colors" "us" "[F" ∈ lw_all) (hd : decode cc pc = .ok (.getfield index, 3)) (k : K σ φ (pc + 3) lv (.ref (ad 47) :: st)) : K σ φ pc lv (.ref (ad 44) :: st) := g_get C (T := TX2) iu_2 44 (fun f => at_44 ad dA σ f) rfl 2 (by decide) hl rfl rfl hd k
theorem ggN_44_2 (C : Cx K l D ad dA z0 tt cc own nL R) {host : String} {index : Nat} (hl : Cond.fieldLinkNest own index "CompositeDecoder$Colors" "us" "[F" host ∈ lw_nest) (hd : decode cc pc = .ok (.getfield index, 3)) (k : K σ φ (pc + 3) lv (.ref (ad 47) :: st)) : K σ φ pc lv (.ref (ad 44) :: st) := g_getN C (T := TX2) iu_2 44 (fun f => at_44 ad dA σ f) rfl 2 (by decide) hl rfl rfl hd k
theorem gg_44_3 (C : Cx K l D ad dA z0 tt cc own nL R) {index : Nat} (hl : Cond.fieldLink own index "CompositeDecoder$Colors" "vs" "[F" ∈ lw_all) (hd : decode cc pc = .ok (.getfield index, 3)) (k : K σ φ (pc + 3) lv (.ref (ad 48) :: st)) : K σ φ pc lv (.ref (ad 44) :: st) := g_get C (T := TX2) iu_2 44 (fun f => at_44 ad dA σ f) rfl 3 (by decide) hl rfl rfl hd k
theorem ggN_44_3 (C : Cx K l D ad dA z0 tt cc own nL R) {host : String} {index : Nat} (hl : Cond.fieldLinkNest own index "CompositeDecoder$Colors" "vs" "[F" host ∈ lw_nest) (hd : decode cc pc = .ok (.getfield index, 3)) (k : K σ φ (pc + 3) lv (.ref (ad 48) :: st)) : K σ φ pc lv (.ref (ad 44) :: st) := g_getN C (T := TX2) iu_2 44 (fun f => at_44 ad dA σ f) rfl 3 (by decide) hl rfl rfl hd k
theorem ld_45 (C : Cx K l D ad dA z0 tt cc own nL R) {i : Int32} (hin : vp_in i 80) (hd : decode cc pc = .ok (.faload, 1)) (k : K σ φ (pc + 1) lv (.float (φ 45 i.toNatClampNeg) :: st)) : K σ φ pc lv (.int i :: .ref (ad 45) :: st) := g_fald C 45 (fun f => at_45 ad dA σ f) hin hd k
theorem sd_45 (C : Cx K l D ad dA z0 tt cc own nL R) {i : Int32} {x : UInt32} (hin : vp_in i 80) (hd : decode cc pc = .ok (.fastore, 1)) (k : K σ (va_up φ 45 (vf_upd (φ 45) i.toNatClampNeg x)) (pc + 1) lv st) : K σ φ pc lv (.float x :: .int i :: .ref (ad 45) :: st) := g_fast C 45 (fun f => at_45 ad dA σ f) hin (fun f g => set_45 ad dA σ f g) hd k
theorem ld_46 (C : Cx K l D ad dA z0 tt cc own nL R) {i : Int32} (hin : vp_in i 80) (hd : decode cc pc = .ok (.faload, 1)) (k : K σ φ (pc + 1) lv (.float (φ 46 i.toNatClampNeg) :: st)) : K σ φ pc lv (.int i :: .ref (ad 46) :: st) := g_fald C 46 (fun f => at_46 ad dA σ f) hin hd k
theorem sd_46 (C : Cx K l D ad dA z0 tt cc own nL R) {i : Int32} {x : UInt32} (hin : vp_in i 80) (hd : decode cc pc = .ok (.fastore, 1)) (k : K σ (va_up φ 46 (vf_upd (φ 46) i.toNatClampNeg x)) (pc + 1) lv st) : K σ φ pc lv (.float x :: .int i :: .ref (ad 46) :: st) := g_fast C 46 (fun f => at_46 ad dA σ f) hin (fun f g => set_46 ad dA σ f g) hd k
theorem ld_47 (C : Cx K l D ad dA z0 tt cc own nL R) {i : Int32} (hin : vp_in i 80) (hd : decode cc pc = .ok (.faload, 1)) (k : K σ φ (pc + 1) lv (.float (φ 47 i.toNatClampNeg) :: st)) : K σ φ pc lv (.int i :: .ref (ad 47) :: st) := g_fald C 47 (fun f => at_47 ad dA σ f) hin hd k
theorem sd_47 (C : Cx K l D ad dA z0 tt cc own nL R) {i : Int32} {x : UInt32} (hin : vp_in i 80) (hd : decode cc pc = .ok (.fastore, 1)) (k : K σ (va_up φ 47 (vf_upd (φ 47) i.toNatClampNeg x)) (pc + 1) lv st) : K σ φ pc lv (.float x :: .int i :: .ref (ad 47) :: st) := g_fast C 47 (fun f => at_47 ad dA σ f) hin (fun f g => set_47 ad dA σ f g) hd k
theorem ld_48 (C : Cx K l D ad dA z0 tt cc own nL R) {i : Int32} (hin : vp_in i 80) (hd : decode cc pc = .ok (.faload, 1)) (k : K σ φ (pc + 1) lv (.float (φ 48 i.toNatClampNeg) :: st)) : K σ φ pc lv (.int i :: .ref (ad 48) :: st) := g_fald C 48 (fun f => at_48 ad dA σ f) hin hd k
theorem sd_48 (C : Cx K l D ad dA z0 tt cc own nL R) {i : Int32} {x : UInt32} (hin : vp_in i 80) (hd : decode cc pc = .ok (.fastore, 1)) (k : K σ (va_up φ 48 (vf_upd (φ 48) i.toNatClampNeg x)) (pc + 1) lv st) : K σ φ pc lv (.float x :: .int i :: .ref (ad 48) :: st) := g_fast C 48 (fun f => at_48 ad dA σ f) hin (fun f g => set_48 ad dA σ f g) hd k
theorem gg_49_0 (C : Cx K l D ad dA z0 tt cc own nL R) {index : Nat} (hl : Cond.fieldLink own index "CompositeDecoder$Movement" "lumasBefore" "[I" ∈ lw_all) (hd : decode cc pc = .ok (.getfield index, 3)) (k : K σ φ (pc + 3) lv (.ref (ad 50) :: st)) : K σ φ pc lv (.ref (ad 49) :: st) := g_get C (T := TX5) iu_5 49 (fun f => at_49 ad dA σ f) rfl 0 (by decide) hl rfl rfl hd k
theorem ggN_49_0 (C : Cx K l D ad dA z0 tt cc own nL R) {host : String} {index : Nat} (hl : Cond.fieldLinkNest own index "CompositeDecoder$Movement" "lumasBefore" "[I" host ∈ lw_nest) (hd : decode cc pc = .ok (.getfield index, 3)) (k : K σ φ (pc + 3) lv (.ref (ad 50) :: st)) : K σ φ pc lv (.ref (ad 49) :: st) := g_getN C (T := TX5) iu_5 49 (fun f => at_49 ad dA σ f) rfl 0 (by decide) hl rfl rfl hd k
theorem gg_49_1 (C : Cx K l D ad dA z0 tt cc own nL R) {index : Nat} (hl : Cond.fieldLink own index "CompositeDecoder$Movement" "changed" "[Z" ∈ lw_all) (hd : decode cc pc = .ok (.getfield index, 3)) (k : K σ φ (pc + 3) lv (.ref (ad 51) :: st)) : K σ φ pc lv (.ref (ad 49) :: st) := g_get C (T := TX5) iu_5 49 (fun f => at_49 ad dA σ f) rfl 1 (by decide) hl rfl rfl hd k
theorem ggN_49_1 (C : Cx K l D ad dA z0 tt cc own nL R) {host : String} {index : Nat} (hl : Cond.fieldLinkNest own index "CompositeDecoder$Movement" "changed" "[Z" host ∈ lw_nest) (hd : decode cc pc = .ok (.getfield index, 3)) (k : K σ φ (pc + 3) lv (.ref (ad 51) :: st)) : K σ φ pc lv (.ref (ad 49) :: st) := g_getN C (T := TX5) iu_5 49 (fun f => at_49 ad dA σ f) rfl 1 (by decide) hl rfl rfl hd k
theorem gg_49_2 (C : Cx K l D ad dA z0 tt cc own nL R) {index : Nat} (hl : Cond.fieldLink own index "CompositeDecoder$Movement" "kinds" "[I" ∈ lw_all) (hd : decode cc pc = .ok (.getfield index, 3)) (k : K σ φ (pc + 3) lv (.ref (ad 52) :: st)) : K σ φ pc lv (.ref (ad 49) :: st) := g_get C (T := TX5) iu_5 49 (fun f => at_49 ad dA σ f) rfl 2 (by decide) hl rfl rfl hd k
theorem ggN_49_2 (C : Cx K l D ad dA z0 tt cc own nL R) {host : String} {index : Nat} (hl : Cond.fieldLinkNest own index "CompositeDecoder$Movement" "kinds" "[I" host ∈ lw_nest) (hd : decode cc pc = .ok (.getfield index, 3)) (k : K σ φ (pc + 3) lv (.ref (ad 52) :: st)) : K σ φ pc lv (.ref (ad 49) :: st) := g_getN C (T := TX5) iu_5 49 (fun f => at_49 ad dA σ f) rfl 2 (by decide) hl rfl rfl hd k
theorem ld_50 (C : Cx K l D ad dA z0 tt cc own nL R) {i : Int32} (hin : vp_in i 80) (hd : decode cc pc = .ok (.iaload, 1)) (k : K σ φ (pc + 1) lv (.int (σ 50 i.toNatClampNeg) :: st)) : K σ φ pc lv (.int i :: .ref (ad 50) :: st) := g_iald C 50 (fun f => at_50 ad dA σ f) hin hd k
theorem sd_50 (C : Cx K l D ad dA z0 tt cc own nL R) {i x : Int32} (hin : vp_in i 80) (hd : decode cc pc = .ok (.iastore, 1)) (k : K (va_up σ 50 (upd (σ 50) i.toNatClampNeg x)) φ (pc + 1) lv st) : K σ φ pc lv (.int x :: .int i :: .ref (ad 50) :: st) := g_iast C 50 (fun f => at_50 ad dA σ f) hin (fun f => set_50 ad dA σ f _) hd k
theorem ld_51 (C : Cx K l D ad dA z0 tt cc own nL R) {i : Int32} (hin : vp_in i 80) (hd : decode cc pc = .ok (.baload, 1)) (k : K σ φ (pc + 1) lv (.int (σ 51 i.toNatClampNeg) :: st)) : K σ φ pc lv (.int i :: .ref (ad 51) :: st) := g_zald C 51 (fun f => at_51 ad dA σ f) hin hd k
theorem sd_51 (C : Cx K l D ad dA z0 tt cc own nL R) {i x : Int32} (hin : vp_in i 80) (hd : decode cc pc = .ok (.bastore, 1)) (k : K (va_up σ 51 (upd (σ 51) i.toNatClampNeg (vp_nar .boolean x))) φ (pc + 1) lv st) : K σ φ pc lv (.int x :: .int i :: .ref (ad 51) :: st) := g_zast C 51 (fun f => at_51 ad dA σ f) hin (fun f => set_51 ad dA σ f _) hd k
theorem ld_52 (C : Cx K l D ad dA z0 tt cc own nL R) {i : Int32} (hin : vp_in i 80) (hd : decode cc pc = .ok (.iaload, 1)) (k : K σ φ (pc + 1) lv (.int (σ 52 i.toNatClampNeg) :: st)) : K σ φ pc lv (.int i :: .ref (ad 52) :: st) := g_iald C 52 (fun f => at_52 ad dA σ f) hin hd k
theorem sd_52 (C : Cx K l D ad dA z0 tt cc own nL R) {i x : Int32} (hin : vp_in i 80) (hd : decode cc pc = .ok (.iastore, 1)) (k : K (va_up σ 52 (upd (σ 52) i.toNatClampNeg x)) φ (pc + 1) lv st) : K σ φ pc lv (.int x :: .int i :: .ref (ad 52) :: st) := g_iast C 52 (fun f => at_52 ad dA σ f) hin (fun f => set_52 ad dA σ f _) hd k
theorem gg_53_0 (C : Cx K l D ad dA z0 tt cc own nL R) {index : Nat} (hl : Cond.fieldLink own index "CompositeDecoderModel" "lightOf" "[I" ∈ lw_all) (hd : decode cc pc = .ok (.getfield index, 3)) (k : K σ φ (pc + 3) lv (.ref (ad 54) :: st)) : K σ φ pc lv (.ref (ad 53) :: st) := g_get C (T := TX11) iu_11 53 (fun f => at_53 ad dA σ f) rfl 0 (by decide) hl rfl rfl hd k
theorem ggN_53_0 (C : Cx K l D ad dA z0 tt cc own nL R) {host : String} {index : Nat} (hl : Cond.fieldLinkNest own index "CompositeDecoderModel" "lightOf" "[I" host ∈ lw_nest) (hd : decode cc pc = .ok (.getfield index, 3)) (k : K σ φ (pc + 3) lv (.ref (ad 54) :: st)) : K σ φ pc lv (.ref (ad 53) :: st) := g_getN C (T := TX11) iu_11 53 (fun f => at_53 ad dA σ f) rfl 0 (by decide) hl rfl rfl hd k
theorem gg_53_1 (C : Cx K l D ad dA z0 tt cc own nL R) {index : Nat} (hl : Cond.fieldLink own index "CompositeDecoderModel" "firstOf" "[I" ∈ lw_all) (hd : decode cc pc = .ok (.getfield index, 3)) (k : K σ φ (pc + 3) lv (.ref (ad 55) :: st)) : K σ φ pc lv (.ref (ad 53) :: st) := g_get C (T := TX11) iu_11 53 (fun f => at_53 ad dA σ f) rfl 1 (by decide) hl rfl rfl hd k
theorem ggN_53_1 (C : Cx K l D ad dA z0 tt cc own nL R) {host : String} {index : Nat} (hl : Cond.fieldLinkNest own index "CompositeDecoderModel" "firstOf" "[I" host ∈ lw_nest) (hd : decode cc pc = .ok (.getfield index, 3)) (k : K σ φ (pc + 3) lv (.ref (ad 55) :: st)) : K σ φ pc lv (.ref (ad 53) :: st) := g_getN C (T := TX11) iu_11 53 (fun f => at_53 ad dA σ f) rfl 1 (by decide) hl rfl rfl hd k
theorem gg_53_2 (C : Cx K l D ad dA z0 tt cc own nL R) {index : Nat} (hl : Cond.fieldLink own index "CompositeDecoderModel" "secondOf" "[I" ∈ lw_all) (hd : decode cc pc = .ok (.getfield index, 3)) (k : K σ φ (pc + 3) lv (.ref (ad 56) :: st)) : K σ φ pc lv (.ref (ad 53) :: st) := g_get C (T := TX11) iu_11 53 (fun f => at_53 ad dA σ f) rfl 2 (by decide) hl rfl rfl hd k
theorem ggN_53_2 (C : Cx K l D ad dA z0 tt cc own nL R) {host : String} {index : Nat} (hl : Cond.fieldLinkNest own index "CompositeDecoderModel" "secondOf" "[I" host ∈ lw_nest) (hd : decode cc pc = .ok (.getfield index, 3)) (k : K σ φ (pc + 3) lv (.ref (ad 56) :: st)) : K σ φ pc lv (.ref (ad 53) :: st) := g_getN C (T := TX11) iu_11 53 (fun f => at_53 ad dA σ f) rfl 2 (by decide) hl rfl rfl hd k
theorem gg_53_3 (C : Cx K l D ad dA z0 tt cc own nL R) {index : Nat} (hl : Cond.fieldLink own index "CompositeDecoderModel" "jitterOf" "[I" ∈ lw_all) (hd : decode cc pc = .ok (.getfield index, 3)) (k : K σ φ (pc + 3) lv (.ref (ad 57) :: st)) : K σ φ pc lv (.ref (ad 53) :: st) := g_get C (T := TX11) iu_11 53 (fun f => at_53 ad dA σ f) rfl 3 (by decide) hl rfl rfl hd k
theorem ggN_53_3 (C : Cx K l D ad dA z0 tt cc own nL R) {host : String} {index : Nat} (hl : Cond.fieldLinkNest own index "CompositeDecoderModel" "jitterOf" "[I" host ∈ lw_nest) (hd : decode cc pc = .ok (.getfield index, 3)) (k : K σ φ (pc + 3) lv (.ref (ad 57) :: st)) : K σ φ pc lv (.ref (ad 53) :: st) := g_getN C (T := TX11) iu_11 53 (fun f => at_53 ad dA σ f) rfl 3 (by decide) hl rfl rfl hd k
theorem gg_53_4 (C : Cx K l D ad dA z0 tt cc own nL R) {index : Nat} (hl : Cond.fieldLink own index "CompositeDecoderModel" "amplitudeOf" "[I" ∈ lw_all) (hd : decode cc pc = .ok (.getfield index, 3)) (k : K σ φ (pc + 3) lv (.ref (ad 58) :: st)) : K σ φ pc lv (.ref (ad 53) :: st) := g_get C (T := TX11) iu_11 53 (fun f => at_53 ad dA σ f) rfl 4 (by decide) hl rfl rfl hd k
theorem ggN_53_4 (C : Cx K l D ad dA z0 tt cc own nL R) {host : String} {index : Nat} (hl : Cond.fieldLinkNest own index "CompositeDecoderModel" "amplitudeOf" "[I" host ∈ lw_nest) (hd : decode cc pc = .ok (.getfield index, 3)) (k : K σ φ (pc + 3) lv (.ref (ad 58) :: st)) : K σ φ pc lv (.ref (ad 53) :: st) := g_getN C (T := TX11) iu_11 53 (fun f => at_53 ad dA σ f) rfl 4 (by decide) hl rfl rfl hd k
theorem gg_53_5 (C : Cx K l D ad dA z0 tt cc own nL R) {index : Nat} (hl : Cond.fieldLink own index "CompositeDecoderModel" "phaseOf" "[I" ∈ lw_all) (hd : decode cc pc = .ok (.getfield index, 3)) (k : K σ φ (pc + 3) lv (.ref (ad 59) :: st)) : K σ φ pc lv (.ref (ad 53) :: st) := g_get C (T := TX11) iu_11 53 (fun f => at_53 ad dA σ f) rfl 5 (by decide) hl rfl rfl hd k
theorem ggN_53_5 (C : Cx K l D ad dA z0 tt cc own nL R) {host : String} {index : Nat} (hl : Cond.fieldLinkNest own index "CompositeDecoderModel" "phaseOf" "[I" host ∈ lw_nest) (hd : decode cc pc = .ok (.getfield index, 3)) (k : K σ φ (pc + 3) lv (.ref (ad 59) :: st)) : K σ φ pc lv (.ref (ad 53) :: st) := g_getN C (T := TX11) iu_11 53 (fun f => at_53 ad dA σ f) rfl 5 (by decide) hl rfl rfl hd k
theorem gg_53_6 (C : Cx K l D ad dA z0 tt cc own nL R) {index : Nat} (hl : Cond.fieldLink own index "CompositeDecoderModel" "noiseOf" "[I" ∈ lw_all) (hd : decode cc pc = .ok (.getfield index, 3)) (k : K σ φ (pc + 3) lv (.ref (ad 60) :: st)) : K σ φ pc lv (.ref (ad 53) :: st) := g_get C (T := TX11) iu_11 53 (fun f => at_53 ad dA σ f) rfl 6 (by decide) hl rfl rfl hd k
theorem ggN_53_6 (C : Cx K l D ad dA z0 tt cc own nL R) {host : String} {index : Nat} (hl : Cond.fieldLinkNest own index "CompositeDecoderModel" "noiseOf" "[I" host ∈ lw_nest) (hd : decode cc pc = .ok (.getfield index, 3)) (k : K σ φ (pc + 3) lv (.ref (ad 60) :: st)) : K σ φ pc lv (.ref (ad 53) :: st) := g_getN C (T := TX11) iu_11 53 (fun f => at_53 ad dA σ f) rfl 6 (by decide) hl rfl rfl hd k
theorem gg_53_7 (C : Cx K l D ad dA z0 tt cc own nL R) {index : Nat} (hl : Cond.fieldLink own index "CompositeDecoderModel" "isMissing" "[Z" ∈ lw_all) (hd : decode cc pc = .ok (.getfield index, 3)) (k : K σ φ (pc + 3) lv (.ref (ad 61) :: st)) : K σ φ pc lv (.ref (ad 53) :: st) := g_get C (T := TX11) iu_11 53 (fun f => at_53 ad dA σ f) rfl 7 (by decide) hl rfl rfl hd k
theorem ggN_53_7 (C : Cx K l D ad dA z0 tt cc own nL R) {host : String} {index : Nat} (hl : Cond.fieldLinkNest own index "CompositeDecoderModel" "isMissing" "[Z" host ∈ lw_nest) (hd : decode cc pc = .ok (.getfield index, 3)) (k : K σ φ (pc + 3) lv (.ref (ad 61) :: st)) : K σ φ pc lv (.ref (ad 53) :: st) := g_getN C (T := TX11) iu_11 53 (fun f => at_53 ad dA σ f) rfl 7 (by decide) hl rfl rfl hd k
theorem gg_53_8 (C : Cx K l D ad dA z0 tt cc own nL R) {index : Nat} (hl : Cond.fieldLink own index "CompositeDecoderModel" "signal" "I" ∈ lw_all) (hd : decode cc pc = .ok (.getfield index, 3)) (k : K σ φ (pc + 3) lv (.int (σ 53 8) :: st)) : K σ φ pc lv (.ref (ad 53) :: st) := g_get C (T := TX11) iu_11 53 (fun f => at_53 ad dA σ f) rfl 8 (by decide) hl rfl rfl hd k
theorem gp_53_8 (C : Cx K l D ad dA z0 tt cc own nL R) {index : Nat} {x : Int32} (hl : Cond.fieldLink own index "CompositeDecoderModel" "signal" "I" ∈ lw_all) (hd : decode cc pc = .ok (.putfield index, 3)) (k : K (va_up σ 53 (upd (σ 53) 8 x)) φ (pc + 3) lv st) : K σ φ pc lv (.int x :: .ref (ad 53) :: st) := g_put C (T := TX11) (ty := .int) iu_11 tyX11 tyX11_ok nmX11 53 (fun f => at_53 ad dA σ f) rfl 8 (by decide) hl rfl rfl rfl rfl rfl (Nat.le_of_ble_eq_true rfl) (fun f => set_53_8 ad dA σ f x) hd k
theorem ggN_53_8 (C : Cx K l D ad dA z0 tt cc own nL R) {host : String} {index : Nat} (hl : Cond.fieldLinkNest own index "CompositeDecoderModel" "signal" "I" host ∈ lw_nest) (hd : decode cc pc = .ok (.getfield index, 3)) (k : K σ φ (pc + 3) lv (.int (σ 53 8) :: st)) : K σ φ pc lv (.ref (ad 53) :: st) := g_getN C (T := TX11) iu_11 53 (fun f => at_53 ad dA σ f) rfl 8 (by decide) hl rfl rfl hd k
theorem gpN_53_8 (C : Cx K l D ad dA z0 tt cc own nL R) {host : String} {index : Nat} {x : Int32} (hl : Cond.fieldLinkNest own index "CompositeDecoderModel" "signal" "I" host ∈ lw_nest) (hd : decode cc pc = .ok (.putfield index, 3)) (k : K (va_up σ 53 (upd (σ 53) 8 x)) φ (pc + 3) lv st) : K σ φ pc lv (.int x :: .ref (ad 53) :: st) := g_putN C (T := TX11) (ty := .int) iu_11 tyX11 tyX11_ok nmX11 53 (fun f => at_53 ad dA σ f) rfl 8 (by decide) hl rfl rfl rfl rfl rfl (Nat.le_of_ble_eq_true rfl) (fun f => set_53_8 ad dA σ f x) hd k
theorem gg_53_9 (C : Cx K l D ad dA z0 tt cc own nL R) {index : Nat} (hl : Cond.fieldLink own index "CompositeDecoderModel" "settingOf" "[I" ∈ lw_all) (hd : decode cc pc = .ok (.getfield index, 3)) (k : K σ φ (pc + 3) lv (.ref (ad 62) :: st)) : K σ φ pc lv (.ref (ad 53) :: st) := g_get C (T := TX11) iu_11 53 (fun f => at_53 ad dA σ f) rfl 9 (by decide) hl rfl rfl hd k
theorem ggN_53_9 (C : Cx K l D ad dA z0 tt cc own nL R) {host : String} {index : Nat} (hl : Cond.fieldLinkNest own index "CompositeDecoderModel" "settingOf" "[I" host ∈ lw_nest) (hd : decode cc pc = .ok (.getfield index, 3)) (k : K σ φ (pc + 3) lv (.ref (ad 62) :: st)) : K σ φ pc lv (.ref (ad 53) :: st) := g_getN C (T := TX11) iu_11 53 (fun f => at_53 ad dA σ f) rfl 9 (by decide) hl rfl rfl hd k
theorem gg_53_10 (C : Cx K l D ad dA z0 tt cc own nL R) {index : Nat} (hl : Cond.fieldLink own index "CompositeDecoderModel" "typed" "I" ∈ lw_all) (hd : decode cc pc = .ok (.getfield index, 3)) (k : K σ φ (pc + 3) lv (.int (σ 53 10) :: st)) : K σ φ pc lv (.ref (ad 53) :: st) := g_get C (T := TX11) iu_11 53 (fun f => at_53 ad dA σ f) rfl 10 (by decide) hl rfl rfl hd k
theorem gp_53_10 (C : Cx K l D ad dA z0 tt cc own nL R) {index : Nat} {x : Int32} (hl : Cond.fieldLink own index "CompositeDecoderModel" "typed" "I" ∈ lw_all) (hd : decode cc pc = .ok (.putfield index, 3)) (k : K (va_up σ 53 (upd (σ 53) 10 x)) φ (pc + 3) lv st) : K σ φ pc lv (.int x :: .ref (ad 53) :: st) := g_put C (T := TX11) (ty := .int) iu_11 tyX11 tyX11_ok nmX11 53 (fun f => at_53 ad dA σ f) rfl 10 (by decide) hl rfl rfl rfl rfl rfl (Nat.le_of_ble_eq_true rfl) (fun f => set_53_10 ad dA σ f x) hd k
theorem ggN_53_10 (C : Cx K l D ad dA z0 tt cc own nL R) {host : String} {index : Nat} (hl : Cond.fieldLinkNest own index "CompositeDecoderModel" "typed" "I" host ∈ lw_nest) (hd : decode cc pc = .ok (.getfield index, 3)) (k : K σ φ (pc + 3) lv (.int (σ 53 10) :: st)) : K σ φ pc lv (.ref (ad 53) :: st) := g_getN C (T := TX11) iu_11 53 (fun f => at_53 ad dA σ f) rfl 10 (by decide) hl rfl rfl hd k
theorem gpN_53_10 (C : Cx K l D ad dA z0 tt cc own nL R) {host : String} {index : Nat} {x : Int32} (hl : Cond.fieldLinkNest own index "CompositeDecoderModel" "typed" "I" host ∈ lw_nest) (hd : decode cc pc = .ok (.putfield index, 3)) (k : K (va_up σ 53 (upd (σ 53) 10 x)) φ (pc + 3) lv st) : K σ φ pc lv (.int x :: .ref (ad 53) :: st) := g_putN C (T := TX11) (ty := .int) iu_11 tyX11 tyX11_ok nmX11 53 (fun f => at_53 ad dA σ f) rfl 10 (by decide) hl rfl rfl rfl rfl rfl (Nat.le_of_ble_eq_true rfl) (fun f => set_53_10 ad dA σ f x) hd k
theorem gg_53_11 (C : Cx K l D ad dA z0 tt cc own nL R) {index : Nat} (hl : Cond.fieldLink own index "CompositeDecoderModel" "text" "[C" ∈ lw_all) (hd : decode cc pc = .ok (.getfield index, 3)) (k : K σ φ (pc + 3) lv (.ref (ad 63) :: st)) : K σ φ pc lv (.ref (ad 53) :: st) := g_get C (T := TX11) iu_11 53 (fun f => at_53 ad dA σ f) rfl 11 (by decide) hl rfl rfl hd k
theorem ggN_53_11 (C : Cx K l D ad dA z0 tt cc own nL R) {host : String} {index : Nat} (hl : Cond.fieldLinkNest own index "CompositeDecoderModel" "text" "[C" host ∈ lw_nest) (hd : decode cc pc = .ok (.getfield index, 3)) (k : K σ φ (pc + 3) lv (.ref (ad 63) :: st)) : K σ φ pc lv (.ref (ad 53) :: st) := g_getN C (T := TX11) iu_11 53 (fun f => at_53 ad dA σ f) rfl 11 (by decide) hl rfl rfl hd k
theorem gg_53_12 (C : Cx K l D ad dA z0 tt cc own nL R) {index : Nat} (hl : Cond.fieldLink own index "CompositeDecoderModel" "read" "[I" ∈ lw_all) (hd : decode cc pc = .ok (.getfield index, 3)) (k : K σ φ (pc + 3) lv (.ref (ad 64) :: st)) : K σ φ pc lv (.ref (ad 53) :: st) := g_get C (T := TX11) iu_11 53 (fun f => at_53 ad dA σ f) rfl 12 (by decide) hl rfl rfl hd k
theorem ggN_53_12 (C : Cx K l D ad dA z0 tt cc own nL R) {host : String} {index : Nat} (hl : Cond.fieldLinkNest own index "CompositeDecoderModel" "read" "[I" host ∈ lw_nest) (hd : decode cc pc = .ok (.getfield index, 3)) (k : K σ φ (pc + 3) lv (.ref (ad 64) :: st)) : K σ φ pc lv (.ref (ad 53) :: st) := g_getN C (T := TX11) iu_11 53 (fun f => at_53 ad dA σ f) rfl 12 (by decide) hl rfl rfl hd k
theorem gg_53_13 (C : Cx K l D ad dA z0 tt cc own nL R) {index : Nat} (hl : Cond.fieldLink own index "CompositeDecoderModel" "decodings" "I" ∈ lw_all) (hd : decode cc pc = .ok (.getfield index, 3)) (k : K σ φ (pc + 3) lv (.int (σ 53 13) :: st)) : K σ φ pc lv (.ref (ad 53) :: st) := g_get C (T := TX11) iu_11 53 (fun f => at_53 ad dA σ f) rfl 13 (by decide) hl rfl rfl hd k
theorem gp_53_13 (C : Cx K l D ad dA z0 tt cc own nL R) {index : Nat} {x : Int32} (hl : Cond.fieldLink own index "CompositeDecoderModel" "decodings" "I" ∈ lw_all) (hd : decode cc pc = .ok (.putfield index, 3)) (k : K (va_up σ 53 (upd (σ 53) 13 x)) φ (pc + 3) lv st) : K σ φ pc lv (.int x :: .ref (ad 53) :: st) := g_put C (T := TX11) (ty := .int) iu_11 tyX11 tyX11_ok nmX11 53 (fun f => at_53 ad dA σ f) rfl 13 (by decide) hl rfl rfl rfl rfl rfl (Nat.le_of_ble_eq_true rfl) (fun f => set_53_13 ad dA σ f x) hd k
theorem ggN_53_13 (C : Cx K l D ad dA z0 tt cc own nL R) {host : String} {index : Nat} (hl : Cond.fieldLinkNest own index "CompositeDecoderModel" "decodings" "I" host ∈ lw_nest) (hd : decode cc pc = .ok (.getfield index, 3)) (k : K σ φ (pc + 3) lv (.int (σ 53 13) :: st)) : K σ φ pc lv (.ref (ad 53) :: st) := g_getN C (T := TX11) iu_11 53 (fun f => at_53 ad dA σ f) rfl 13 (by decide) hl rfl rfl hd k
theorem gpN_53_13 (C : Cx K l D ad dA z0 tt cc own nL R) {host : String} {index : Nat} {x : Int32} (hl : Cond.fieldLinkNest own index "CompositeDecoderModel" "decodings" "I" host ∈ lw_nest) (hd : decode cc pc = .ok (.putfield index, 3)) (k : K (va_up σ 53 (upd (σ 53) 13 x)) φ (pc + 3) lv st) : K σ φ pc lv (.int x :: .ref (ad 53) :: st) := g_putN C (T := TX11) (ty := .int) iu_11 tyX11 tyX11_ok nmX11 53 (fun f => at_53 ad dA σ f) rfl 13 (by decide) hl rfl rfl rfl rfl rfl (Nat.le_of_ble_eq_true rfl) (fun f => set_53_13 ad dA σ f x) hd k
theorem gg_53_14 (C : Cx K l D ad dA z0 tt cc own nL R) {index : Nat} (hl : Cond.fieldLink own index "CompositeDecoderModel" "foundAt" "[I" ∈ lw_all) (hd : decode cc pc = .ok (.getfield index, 3)) (k : K σ φ (pc + 3) lv (.ref (ad 65) :: st)) : K σ φ pc lv (.ref (ad 53) :: st) := g_get C (T := TX11) iu_11 53 (fun f => at_53 ad dA σ f) rfl 14 (by decide) hl rfl rfl hd k
theorem ggN_53_14 (C : Cx K l D ad dA z0 tt cc own nL R) {host : String} {index : Nat} (hl : Cond.fieldLinkNest own index "CompositeDecoderModel" "foundAt" "[I" host ∈ lw_nest) (hd : decode cc pc = .ok (.getfield index, 3)) (k : K σ φ (pc + 3) lv (.ref (ad 65) :: st)) : K σ φ pc lv (.ref (ad 53) :: st) := g_getN C (T := TX11) iu_11 53 (fun f => at_53 ad dA σ f) rfl 14 (by decide) hl rfl rfl hd k
theorem gg_53_15 (C : Cx K l D ad dA z0 tt cc own nL R) {index : Nat} (hl : Cond.fieldLink own index "CompositeDecoderModel" "startOf" "[I" ∈ lw_all) (hd : decode cc pc = .ok (.getfield index, 3)) (k : K σ φ (pc + 3) lv (.ref (ad 66) :: st)) : K σ φ pc lv (.ref (ad 53) :: st) := g_get C (T := TX11) iu_11 53 (fun f => at_53 ad dA σ f) rfl 15 (by decide) hl rfl rfl hd k
theorem ggN_53_15 (C : Cx K l D ad dA z0 tt cc own nL R) {host : String} {index : Nat} (hl : Cond.fieldLinkNest own index "CompositeDecoderModel" "startOf" "[I" host ∈ lw_nest) (hd : decode cc pc = .ok (.getfield index, 3)) (k : K σ φ (pc + 3) lv (.ref (ad 66) :: st)) : K σ φ pc lv (.ref (ad 53) :: st) := g_getN C (T := TX11) iu_11 53 (fun f => at_53 ad dA σ f) rfl 15 (by decide) hl rfl rfl hd k
theorem gg_53_16 (C : Cx K l D ad dA z0 tt cc own nL R) {index : Nat} (hl : Cond.fieldLink own index "CompositeDecoderModel" "isLocked" "[Z" ∈ lw_all) (hd : decode cc pc = .ok (.getfield index, 3)) (k : K σ φ (pc + 3) lv (.ref (ad 67) :: st)) : K σ φ pc lv (.ref (ad 53) :: st) := g_get C (T := TX11) iu_11 53 (fun f => at_53 ad dA σ f) rfl 16 (by decide) hl rfl rfl hd k
theorem ggN_53_16 (C : Cx K l D ad dA z0 tt cc own nL R) {host : String} {index : Nat} (hl : Cond.fieldLinkNest own index "CompositeDecoderModel" "isLocked" "[Z" host ∈ lw_nest) (hd : decode cc pc = .ok (.getfield index, 3)) (k : K σ φ (pc + 3) lv (.ref (ad 67) :: st)) : K σ φ pc lv (.ref (ad 53) :: st) := g_getN C (T := TX11) iu_11 53 (fun f => at_53 ad dA σ f) rfl 16 (by decide) hl rfl rfl hd k
theorem gg_53_17 (C : Cx K l D ad dA z0 tt cc own nL R) {index : Nat} (hl : Cond.fieldLink own index "CompositeDecoderModel" "wheelAt" "[I" ∈ lw_all) (hd : decode cc pc = .ok (.getfield index, 3)) (k : K σ φ (pc + 3) lv (.ref (ad 68) :: st)) : K σ φ pc lv (.ref (ad 53) :: st) := g_get C (T := TX11) iu_11 53 (fun f => at_53 ad dA σ f) rfl 17 (by decide) hl rfl rfl hd k
theorem ggN_53_17 (C : Cx K l D ad dA z0 tt cc own nL R) {host : String} {index : Nat} (hl : Cond.fieldLinkNest own index "CompositeDecoderModel" "wheelAt" "[I" host ∈ lw_nest) (hd : decode cc pc = .ok (.getfield index, 3)) (k : K σ φ (pc + 3) lv (.ref (ad 68) :: st)) : K σ φ pc lv (.ref (ad 53) :: st) := g_getN C (T := TX11) iu_11 53 (fun f => at_53 ad dA σ f) rfl 17 (by decide) hl rfl rfl hd k
theorem gg_53_18 (C : Cx K l D ad dA z0 tt cc own nL R) {index : Nat} (hl : Cond.fieldLink own index "CompositeDecoderModel" "burstP" "[I" ∈ lw_all) (hd : decode cc pc = .ok (.getfield index, 3)) (k : K σ φ (pc + 3) lv (.ref (ad 69) :: st)) : K σ φ pc lv (.ref (ad 53) :: st) := g_get C (T := TX11) iu_11 53 (fun f => at_53 ad dA σ f) rfl 18 (by decide) hl rfl rfl hd k
theorem ggN_53_18 (C : Cx K l D ad dA z0 tt cc own nL R) {host : String} {index : Nat} (hl : Cond.fieldLinkNest own index "CompositeDecoderModel" "burstP" "[I" host ∈ lw_nest) (hd : decode cc pc = .ok (.getfield index, 3)) (k : K σ φ (pc + 3) lv (.ref (ad 69) :: st)) : K σ φ pc lv (.ref (ad 53) :: st) := g_getN C (T := TX11) iu_11 53 (fun f => at_53 ad dA σ f) rfl 18 (by decide) hl rfl rfl hd k
theorem gg_53_19 (C : Cx K l D ad dA z0 tt cc own nL R) {index : Nat} (hl : Cond.fieldLink own index "CompositeDecoderModel" "burstQ" "[I" ∈ lw_all) (hd : decode cc pc = .ok (.getfield index, 3)) (k : K σ φ (pc + 3) lv (.ref (ad 70) :: st)) : K σ φ pc lv (.ref (ad 53) :: st) := g_get C (T := TX11) iu_11 53 (fun f => at_53 ad dA σ f) rfl 19 (by decide) hl rfl rfl hd k
theorem ggN_53_19 (C : Cx K l D ad dA z0 tt cc own nL R) {host : String} {index : Nat} (hl : Cond.fieldLinkNest own index "CompositeDecoderModel" "burstQ" "[I" host ∈ lw_nest) (hd : decode cc pc = .ok (.getfield index, 3)) (k : K σ φ (pc + 3) lv (.ref (ad 70) :: st)) : K σ φ pc lv (.ref (ad 53) :: st) := g_getN C (T := TX11) iu_11 53 (fun f => at_53 ad dA σ f) rfl 19 (by decide) hl rfl rfl hd k
theorem gg_53_20 (C : Cx K l D ad dA z0 tt cc own nL R) {index : Nat} (hl : Cond.fieldLink own index "CompositeDecoderModel" "isGood" "[Z" ∈ lw_all) (hd : decode cc pc = .ok (.getfield index, 3)) (k : K σ φ (pc + 3) lv (.ref (ad 71) :: st)) : K σ φ pc lv (.ref (ad 53) :: st) := g_get C (T := TX11) iu_11 53 (fun f => at_53 ad dA σ f) rfl 20 (by decide) hl rfl rfl hd k
theorem ggN_53_20 (C : Cx K l D ad dA z0 tt cc own nL R) {host : String} {index : Nat} (hl : Cond.fieldLinkNest own index "CompositeDecoderModel" "isGood" "[Z" host ∈ lw_nest) (hd : decode cc pc = .ok (.getfield index, 3)) (k : K σ φ (pc + 3) lv (.ref (ad 71) :: st)) : K σ φ pc lv (.ref (ad 53) :: st) := g_getN C (T := TX11) iu_11 53 (fun f => at_53 ad dA σ f) rfl 20 (by decide) hl rfl rfl hd k
theorem gg_53_21 (C : Cx K l D ad dA z0 tt cc own nL R) {index : Nat} (hl : Cond.fieldLink own index "CompositeDecoderModel" "hasColor" "[Z" ∈ lw_all) (hd : decode cc pc = .ok (.getfield index, 3)) (k : K σ φ (pc + 3) lv (.ref (ad 72) :: st)) : K σ φ pc lv (.ref (ad 53) :: st) := g_get C (T := TX11) iu_11 53 (fun f => at_53 ad dA σ f) rfl 21 (by decide) hl rfl rfl hd k
theorem ggN_53_21 (C : Cx K l D ad dA z0 tt cc own nL R) {host : String} {index : Nat} (hl : Cond.fieldLinkNest own index "CompositeDecoderModel" "hasColor" "[Z" host ∈ lw_nest) (hd : decode cc pc = .ok (.getfield index, 3)) (k : K σ φ (pc + 3) lv (.ref (ad 72) :: st)) : K σ φ pc lv (.ref (ad 53) :: st) := g_getN C (T := TX11) iu_11 53 (fun f => at_53 ad dA σ f) rfl 21 (by decide) hl rfl rfl hd k
theorem gg_53_22 (C : Cx K l D ad dA z0 tt cc own nL R) {index : Nat} (hl : Cond.fieldLink own index "CompositeDecoderModel" "turned" "I" ∈ lw_all) (hd : decode cc pc = .ok (.getfield index, 3)) (k : K σ φ (pc + 3) lv (.int (σ 53 22) :: st)) : K σ φ pc lv (.ref (ad 53) :: st) := g_get C (T := TX11) iu_11 53 (fun f => at_53 ad dA σ f) rfl 22 (by decide) hl rfl rfl hd k
theorem gp_53_22 (C : Cx K l D ad dA z0 tt cc own nL R) {index : Nat} {x : Int32} (hl : Cond.fieldLink own index "CompositeDecoderModel" "turned" "I" ∈ lw_all) (hd : decode cc pc = .ok (.putfield index, 3)) (k : K (va_up σ 53 (upd (σ 53) 22 x)) φ (pc + 3) lv st) : K σ φ pc lv (.int x :: .ref (ad 53) :: st) := g_put C (T := TX11) (ty := .int) iu_11 tyX11 tyX11_ok nmX11 53 (fun f => at_53 ad dA σ f) rfl 22 (by decide) hl rfl rfl rfl rfl rfl (Nat.le_of_ble_eq_true rfl) (fun f => set_53_22 ad dA σ f x) hd k
theorem ggN_53_22 (C : Cx K l D ad dA z0 tt cc own nL R) {host : String} {index : Nat} (hl : Cond.fieldLinkNest own index "CompositeDecoderModel" "turned" "I" host ∈ lw_nest) (hd : decode cc pc = .ok (.getfield index, 3)) (k : K σ φ (pc + 3) lv (.int (σ 53 22) :: st)) : K σ φ pc lv (.ref (ad 53) :: st) := g_getN C (T := TX11) iu_11 53 (fun f => at_53 ad dA σ f) rfl 22 (by decide) hl rfl rfl hd k
theorem gpN_53_22 (C : Cx K l D ad dA z0 tt cc own nL R) {host : String} {index : Nat} {x : Int32} (hl : Cond.fieldLinkNest own index "CompositeDecoderModel" "turned" "I" host ∈ lw_nest) (hd : decode cc pc = .ok (.putfield index, 3)) (k : K (va_up σ 53 (upd (σ 53) 22 x)) φ (pc + 3) lv st) : K σ φ pc lv (.int x :: .ref (ad 53) :: st) := g_putN C (T := TX11) (ty := .int) iu_11 tyX11 tyX11_ok nmX11 53 (fun f => at_53 ad dA σ f) rfl 22 (by decide) hl rfl rfl rfl rfl rfl (Nat.le_of_ble_eq_true rfl) (fun f => set_53_22 ad dA σ f x) hd k
theorem gg_53_23 (C : Cx K l D ad dA z0 tt cc own nL R) {index : Nat} (hl : Cond.fieldLink own index "CompositeDecoderModel" "steady" "I" ∈ lw_all) (hd : decode cc pc = .ok (.getfield index, 3)) (k : K σ φ (pc + 3) lv (.int (σ 53 23) :: st)) : K σ φ pc lv (.ref (ad 53) :: st) := g_get C (T := TX11) iu_11 53 (fun f => at_53 ad dA σ f) rfl 23 (by decide) hl rfl rfl hd k
theorem gp_53_23 (C : Cx K l D ad dA z0 tt cc own nL R) {index : Nat} {x : Int32} (hl : Cond.fieldLink own index "CompositeDecoderModel" "steady" "I" ∈ lw_all) (hd : decode cc pc = .ok (.putfield index, 3)) (k : K (va_up σ 53 (upd (σ 53) 23 x)) φ (pc + 3) lv st) : K σ φ pc lv (.int x :: .ref (ad 53) :: st) := g_put C (T := TX11) (ty := .int) iu_11 tyX11 tyX11_ok nmX11 53 (fun f => at_53 ad dA σ f) rfl 23 (by decide) hl rfl rfl rfl rfl rfl (Nat.le_of_ble_eq_true rfl) (fun f => set_53_23 ad dA σ f x) hd k
theorem ggN_53_23 (C : Cx K l D ad dA z0 tt cc own nL R) {host : String} {index : Nat} (hl : Cond.fieldLinkNest own index "CompositeDecoderModel" "steady" "I" host ∈ lw_nest) (hd : decode cc pc = .ok (.getfield index, 3)) (k : K σ φ (pc + 3) lv (.int (σ 53 23) :: st)) : K σ φ pc lv (.ref (ad 53) :: st) := g_getN C (T := TX11) iu_11 53 (fun f => at_53 ad dA σ f) rfl 23 (by decide) hl rfl rfl hd k
theorem gpN_53_23 (C : Cx K l D ad dA z0 tt cc own nL R) {host : String} {index : Nat} {x : Int32} (hl : Cond.fieldLinkNest own index "CompositeDecoderModel" "steady" "I" host ∈ lw_nest) (hd : decode cc pc = .ok (.putfield index, 3)) (k : K (va_up σ 53 (upd (σ 53) 23 x)) φ (pc + 3) lv st) : K σ φ pc lv (.int x :: .ref (ad 53) :: st) := g_putN C (T := TX11) (ty := .int) iu_11 tyX11 tyX11_ok nmX11 53 (fun f => at_53 ad dA σ f) rfl 23 (by decide) hl rfl rfl rfl rfl rfl (Nat.le_of_ble_eq_true rfl) (fun f => set_53_23 ad dA σ f x) hd k
theorem gg_53_24 (C : Cx K l D ad dA z0 tt cc own nL R) {index : Nat} (hl : Cond.fieldLink own index "CompositeDecoderModel" "turnP" "[F" ∈ lw_all) (hd : decode cc pc = .ok (.getfield index, 3)) (k : K σ φ (pc + 3) lv (.ref (ad 73) :: st)) : K σ φ pc lv (.ref (ad 53) :: st) := g_get C (T := TX11) iu_11 53 (fun f => at_53 ad dA σ f) rfl 24 (by decide) hl rfl rfl hd k
theorem ggN_53_24 (C : Cx K l D ad dA z0 tt cc own nL R) {host : String} {index : Nat} (hl : Cond.fieldLinkNest own index "CompositeDecoderModel" "turnP" "[F" host ∈ lw_nest) (hd : decode cc pc = .ok (.getfield index, 3)) (k : K σ φ (pc + 3) lv (.ref (ad 73) :: st)) : K σ φ pc lv (.ref (ad 53) :: st) := g_getN C (T := TX11) iu_11 53 (fun f => at_53 ad dA σ f) rfl 24 (by decide) hl rfl rfl hd k
theorem gg_53_25 (C : Cx K l D ad dA z0 tt cc own nL R) {index : Nat} (hl : Cond.fieldLink own index "CompositeDecoderModel" "turnQ" "[F" ∈ lw_all) (hd : decode cc pc = .ok (.getfield index, 3)) (k : K σ φ (pc + 3) lv (.ref (ad 74) :: st)) : K σ φ pc lv (.ref (ad 53) :: st) := g_get C (T := TX11) iu_11 53 (fun f => at_53 ad dA σ f) rfl 25 (by decide) hl rfl rfl hd k
theorem ggN_53_25 (C : Cx K l D ad dA z0 tt cc own nL R) {host : String} {index : Nat} (hl : Cond.fieldLinkNest own index "CompositeDecoderModel" "turnQ" "[F" host ∈ lw_nest) (hd : decode cc pc = .ok (.getfield index, 3)) (k : K σ φ (pc + 3) lv (.ref (ad 74) :: st)) : K σ φ pc lv (.ref (ad 53) :: st) := g_getN C (T := TX11) iu_11 53 (fun f => at_53 ad dA σ f) rfl 25 (by decide) hl rfl rfl hd k
theorem gg_53_26 (C : Cx K l D ad dA z0 tt cc own nL R) {index : Nat} (hl : Cond.fieldLink own index "CompositeDecoderModel" "lumaOf" "[I" ∈ lw_all) (hd : decode cc pc = .ok (.getfield index, 3)) (k : K σ φ (pc + 3) lv (.ref (ad 75) :: st)) : K σ φ pc lv (.ref (ad 53) :: st) := g_get C (T := TX11) iu_11 53 (fun f => at_53 ad dA σ f) rfl 26 (by decide) hl rfl rfl hd k
theorem ggN_53_26 (C : Cx K l D ad dA z0 tt cc own nL R) {host : String} {index : Nat} (hl : Cond.fieldLinkNest own index "CompositeDecoderModel" "lumaOf" "[I" host ∈ lw_nest) (hd : decode cc pc = .ok (.getfield index, 3)) (k : K σ φ (pc + 3) lv (.ref (ad 75) :: st)) : K σ φ pc lv (.ref (ad 53) :: st) := g_getN C (T := TX11) iu_11 53 (fun f => at_53 ad dA σ f) rfl 26 (by decide) hl rfl rfl hd k
theorem gg_53_27 (C : Cx K l D ad dA z0 tt cc own nL R) {index : Nat} (hl : Cond.fieldLink own index "CompositeDecoderModel" "lumaBefore" "[I" ∈ lw_all) (hd : decode cc pc = .ok (.getfield index, 3)) (k : K σ φ (pc + 3) lv (.ref (ad 76) :: st)) : K σ φ pc lv (.ref (ad 53) :: st) := g_get C (T := TX11) iu_11 53 (fun f => at_53 ad dA σ f) rfl 27 (by decide) hl rfl rfl hd k
theorem ggN_53_27 (C : Cx K l D ad dA z0 tt cc own nL R) {host : String} {index : Nat} (hl : Cond.fieldLinkNest own index "CompositeDecoderModel" "lumaBefore" "[I" host ∈ lw_nest) (hd : decode cc pc = .ok (.getfield index, 3)) (k : K σ φ (pc + 3) lv (.ref (ad 76) :: st)) : K σ φ pc lv (.ref (ad 53) :: st) := g_getN C (T := TX11) iu_11 53 (fun f => at_53 ad dA σ f) rfl 27 (by decide) hl rfl rfl hd k
theorem gg_53_28 (C : Cx K l D ad dA z0 tt cc own nL R) {index : Nat} (hl : Cond.fieldLink own index "CompositeDecoderModel" "wayOf" "[I" ∈ lw_all) (hd : decode cc pc = .ok (.getfield index, 3)) (k : K σ φ (pc + 3) lv (.ref (ad 77) :: st)) : K σ φ pc lv (.ref (ad 53) :: st) := g_get C (T := TX11) iu_11 53 (fun f => at_53 ad dA σ f) rfl 28 (by decide) hl rfl rfl hd k
theorem ggN_53_28 (C : Cx K l D ad dA z0 tt cc own nL R) {host : String} {index : Nat} (hl : Cond.fieldLinkNest own index "CompositeDecoderModel" "wayOf" "[I" host ∈ lw_nest) (hd : decode cc pc = .ok (.getfield index, 3)) (k : K σ φ (pc + 3) lv (.ref (ad 77) :: st)) : K σ φ pc lv (.ref (ad 53) :: st) := g_getN C (T := TX11) iu_11 53 (fun f => at_53 ad dA σ f) rfl 28 (by decide) hl rfl rfl hd k
theorem gg_53_29 (C : Cx K l D ad dA z0 tt cc own nL R) {index : Nat} (hl : Cond.fieldLink own index "CompositeDecoderModel" "rawU" "[F" ∈ lw_all) (hd : decode cc pc = .ok (.getfield index, 3)) (k : K σ φ (pc + 3) lv (.ref (ad 78) :: st)) : K σ φ pc lv (.ref (ad 53) :: st) := g_get C (T := TX11) iu_11 53 (fun f => at_53 ad dA σ f) rfl 29 (by decide) hl rfl rfl hd k
theorem ggN_53_29 (C : Cx K l D ad dA z0 tt cc own nL R) {host : String} {index : Nat} (hl : Cond.fieldLinkNest own index "CompositeDecoderModel" "rawU" "[F" host ∈ lw_nest) (hd : decode cc pc = .ok (.getfield index, 3)) (k : K σ φ (pc + 3) lv (.ref (ad 78) :: st)) : K σ φ pc lv (.ref (ad 53) :: st) := g_getN C (T := TX11) iu_11 53 (fun f => at_53 ad dA σ f) rfl 29 (by decide) hl rfl rfl hd k
theorem gg_53_30 (C : Cx K l D ad dA z0 tt cc own nL R) {index : Nat} (hl : Cond.fieldLink own index "CompositeDecoderModel" "rawV" "[F" ∈ lw_all) (hd : decode cc pc = .ok (.getfield index, 3)) (k : K σ φ (pc + 3) lv (.ref (ad 79) :: st)) : K σ φ pc lv (.ref (ad 53) :: st) := g_get C (T := TX11) iu_11 53 (fun f => at_53 ad dA σ f) rfl 30 (by decide) hl rfl rfl hd k
theorem ggN_53_30 (C : Cx K l D ad dA z0 tt cc own nL R) {host : String} {index : Nat} (hl : Cond.fieldLinkNest own index "CompositeDecoderModel" "rawV" "[F" host ∈ lw_nest) (hd : decode cc pc = .ok (.getfield index, 3)) (k : K σ φ (pc + 3) lv (.ref (ad 79) :: st)) : K σ φ pc lv (.ref (ad 53) :: st) := g_getN C (T := TX11) iu_11 53 (fun f => at_53 ad dA σ f) rfl 30 (by decide) hl rfl rfl hd k
theorem gg_53_31 (C : Cx K l D ad dA z0 tt cc own nL R) {index : Nat} (hl : Cond.fieldLink own index "CompositeDecoderModel" "colorU" "[F" ∈ lw_all) (hd : decode cc pc = .ok (.getfield index, 3)) (k : K σ φ (pc + 3) lv (.ref (ad 80) :: st)) : K σ φ pc lv (.ref (ad 53) :: st) := g_get C (T := TX11) iu_11 53 (fun f => at_53 ad dA σ f) rfl 31 (by decide) hl rfl rfl hd k
theorem ggN_53_31 (C : Cx K l D ad dA z0 tt cc own nL R) {host : String} {index : Nat} (hl : Cond.fieldLinkNest own index "CompositeDecoderModel" "colorU" "[F" host ∈ lw_nest) (hd : decode cc pc = .ok (.getfield index, 3)) (k : K σ φ (pc + 3) lv (.ref (ad 80) :: st)) : K σ φ pc lv (.ref (ad 53) :: st) := g_getN C (T := TX11) iu_11 53 (fun f => at_53 ad dA σ f) rfl 31 (by decide) hl rfl rfl hd k
theorem gg_53_32 (C : Cx K l D ad dA z0 tt cc own nL R) {index : Nat} (hl : Cond.fieldLink own index "CompositeDecoderModel" "colorV" "[F" ∈ lw_all) (hd : decode cc pc = .ok (.getfield index, 3)) (k : K σ φ (pc + 3) lv (.ref (ad 81) :: st)) : K σ φ pc lv (.ref (ad 53) :: st) := g_get C (T := TX11) iu_11 53 (fun f => at_53 ad dA σ f) rfl 32 (by decide) hl rfl rfl hd k
theorem ggN_53_32 (C : Cx K l D ad dA z0 tt cc own nL R) {host : String} {index : Nat} (hl : Cond.fieldLinkNest own index "CompositeDecoderModel" "colorV" "[F" host ∈ lw_nest) (hd : decode cc pc = .ok (.getfield index, 3)) (k : K σ φ (pc + 3) lv (.ref (ad 81) :: st)) : K σ φ pc lv (.ref (ad 53) :: st) := g_getN C (T := TX11) iu_11 53 (fun f => at_53 ad dA σ f) rfl 32 (by decide) hl rfl rfl hd k
theorem gg_53_33 (C : Cx K l D ad dA z0 tt cc own nL R) {index : Nat} (hl : Cond.fieldLink own index "CompositeDecoderModel" "chroma" "[I" ∈ lw_all) (hd : decode cc pc = .ok (.getfield index, 3)) (k : K σ φ (pc + 3) lv (.ref (ad 82) :: st)) : K σ φ pc lv (.ref (ad 53) :: st) := g_get C (T := TX11) iu_11 53 (fun f => at_53 ad dA σ f) rfl 33 (by decide) hl rfl rfl hd k
theorem ggN_53_33 (C : Cx K l D ad dA z0 tt cc own nL R) {host : String} {index : Nat} (hl : Cond.fieldLinkNest own index "CompositeDecoderModel" "chroma" "[I" host ∈ lw_nest) (hd : decode cc pc = .ok (.getfield index, 3)) (k : K σ φ (pc + 3) lv (.ref (ad 82) :: st)) : K σ φ pc lv (.ref (ad 53) :: st) := g_getN C (T := TX11) iu_11 53 (fun f => at_53 ad dA σ f) rfl 33 (by decide) hl rfl rfl hd k
theorem gg_53_34 (C : Cx K l D ad dA z0 tt cc own nL R) {index : Nat} (hl : Cond.fieldLink own index "CompositeDecoderModel" "hasChanged" "[Z" ∈ lw_all) (hd : decode cc pc = .ok (.getfield index, 3)) (k : K σ φ (pc + 3) lv (.ref (ad 83) :: st)) : K σ φ pc lv (.ref (ad 53) :: st) := g_get C (T := TX11) iu_11 53 (fun f => at_53 ad dA σ f) rfl 34 (by decide) hl rfl rfl hd k
theorem ggN_53_34 (C : Cx K l D ad dA z0 tt cc own nL R) {host : String} {index : Nat} (hl : Cond.fieldLinkNest own index "CompositeDecoderModel" "hasChanged" "[Z" host ∈ lw_nest) (hd : decode cc pc = .ok (.getfield index, 3)) (k : K σ φ (pc + 3) lv (.ref (ad 83) :: st)) : K σ φ pc lv (.ref (ad 53) :: st) := g_getN C (T := TX11) iu_11 53 (fun f => at_53 ad dA σ f) rfl 34 (by decide) hl rfl rfl hd k
theorem ld_54 (C : Cx K l D ad dA z0 tt cc own nL R) {i : Int32} (hin : vp_in i 80) (hd : decode cc pc = .ok (.iaload, 1)) (k : K σ φ (pc + 1) lv (.int (σ 54 i.toNatClampNeg) :: st)) : K σ φ pc lv (.int i :: .ref (ad 54) :: st) := g_iald C 54 (fun f => at_54 ad dA σ f) hin hd k
theorem sd_54 (C : Cx K l D ad dA z0 tt cc own nL R) {i x : Int32} (hin : vp_in i 80) (hd : decode cc pc = .ok (.iastore, 1)) (k : K (va_up σ 54 (upd (σ 54) i.toNatClampNeg x)) φ (pc + 1) lv st) : K σ φ pc lv (.int x :: .int i :: .ref (ad 54) :: st) := g_iast C 54 (fun f => at_54 ad dA σ f) hin (fun f => set_54 ad dA σ f _) hd k
theorem ld_55 (C : Cx K l D ad dA z0 tt cc own nL R) {i : Int32} (hin : vp_in i 80) (hd : decode cc pc = .ok (.iaload, 1)) (k : K σ φ (pc + 1) lv (.int (σ 55 i.toNatClampNeg) :: st)) : K σ φ pc lv (.int i :: .ref (ad 55) :: st) := g_iald C 55 (fun f => at_55 ad dA σ f) hin hd k
theorem sd_55 (C : Cx K l D ad dA z0 tt cc own nL R) {i x : Int32} (hin : vp_in i 80) (hd : decode cc pc = .ok (.iastore, 1)) (k : K (va_up σ 55 (upd (σ 55) i.toNatClampNeg x)) φ (pc + 1) lv st) : K σ φ pc lv (.int x :: .int i :: .ref (ad 55) :: st) := g_iast C 55 (fun f => at_55 ad dA σ f) hin (fun f => set_55 ad dA σ f _) hd k
theorem ld_56 (C : Cx K l D ad dA z0 tt cc own nL R) {i : Int32} (hin : vp_in i 80) (hd : decode cc pc = .ok (.iaload, 1)) (k : K σ φ (pc + 1) lv (.int (σ 56 i.toNatClampNeg) :: st)) : K σ φ pc lv (.int i :: .ref (ad 56) :: st) := g_iald C 56 (fun f => at_56 ad dA σ f) hin hd k
theorem sd_56 (C : Cx K l D ad dA z0 tt cc own nL R) {i x : Int32} (hin : vp_in i 80) (hd : decode cc pc = .ok (.iastore, 1)) (k : K (va_up σ 56 (upd (σ 56) i.toNatClampNeg x)) φ (pc + 1) lv st) : K σ φ pc lv (.int x :: .int i :: .ref (ad 56) :: st) := g_iast C 56 (fun f => at_56 ad dA σ f) hin (fun f => set_56 ad dA σ f _) hd k
theorem ld_57 (C : Cx K l D ad dA z0 tt cc own nL R) {i : Int32} (hin : vp_in i 8) (hd : decode cc pc = .ok (.iaload, 1)) (k : K σ φ (pc + 1) lv (.int (σ 57 i.toNatClampNeg) :: st)) : K σ φ pc lv (.int i :: .ref (ad 57) :: st) := g_iald C 57 (fun f => at_57 ad dA σ f) hin hd k
theorem sd_57 (C : Cx K l D ad dA z0 tt cc own nL R) {i x : Int32} (hin : vp_in i 8) (hd : decode cc pc = .ok (.iastore, 1)) (k : K (va_up σ 57 (upd (σ 57) i.toNatClampNeg x)) φ (pc + 1) lv st) : K σ φ pc lv (.int x :: .int i :: .ref (ad 57) :: st) := g_iast C 57 (fun f => at_57 ad dA σ f) hin (fun f => set_57 ad dA σ f _) hd k
theorem ld_58 (C : Cx K l D ad dA z0 tt cc own nL R) {i : Int32} (hin : vp_in i 8) (hd : decode cc pc = .ok (.iaload, 1)) (k : K σ φ (pc + 1) lv (.int (σ 58 i.toNatClampNeg) :: st)) : K σ φ pc lv (.int i :: .ref (ad 58) :: st) := g_iald C 58 (fun f => at_58 ad dA σ f) hin hd k
theorem sd_58 (C : Cx K l D ad dA z0 tt cc own nL R) {i x : Int32} (hin : vp_in i 8) (hd : decode cc pc = .ok (.iastore, 1)) (k : K (va_up σ 58 (upd (σ 58) i.toNatClampNeg x)) φ (pc + 1) lv st) : K σ φ pc lv (.int x :: .int i :: .ref (ad 58) :: st) := g_iast C 58 (fun f => at_58 ad dA σ f) hin (fun f => set_58 ad dA σ f _) hd k
theorem ld_59 (C : Cx K l D ad dA z0 tt cc own nL R) {i : Int32} (hin : vp_in i 8) (hd : decode cc pc = .ok (.iaload, 1)) (k : K σ φ (pc + 1) lv (.int (σ 59 i.toNatClampNeg) :: st)) : K σ φ pc lv (.int i :: .ref (ad 59) :: st) := g_iald C 59 (fun f => at_59 ad dA σ f) hin hd k
theorem sd_59 (C : Cx K l D ad dA z0 tt cc own nL R) {i x : Int32} (hin : vp_in i 8) (hd : decode cc pc = .ok (.iastore, 1)) (k : K (va_up σ 59 (upd (σ 59) i.toNatClampNeg x)) φ (pc + 1) lv st) : K σ φ pc lv (.int x :: .int i :: .ref (ad 59) :: st) := g_iast C 59 (fun f => at_59 ad dA σ f) hin (fun f => set_59 ad dA σ f _) hd k
theorem ld_60 (C : Cx K l D ad dA z0 tt cc own nL R) {i : Int32} (hin : vp_in i 8) (hd : decode cc pc = .ok (.iaload, 1)) (k : K σ φ (pc + 1) lv (.int (σ 60 i.toNatClampNeg) :: st)) : K σ φ pc lv (.int i :: .ref (ad 60) :: st) := g_iald C 60 (fun f => at_60 ad dA σ f) hin hd k
theorem sd_60 (C : Cx K l D ad dA z0 tt cc own nL R) {i x : Int32} (hin : vp_in i 8) (hd : decode cc pc = .ok (.iastore, 1)) (k : K (va_up σ 60 (upd (σ 60) i.toNatClampNeg x)) φ (pc + 1) lv st) : K σ φ pc lv (.int x :: .int i :: .ref (ad 60) :: st) := g_iast C 60 (fun f => at_60 ad dA σ f) hin (fun f => set_60 ad dA σ f _) hd k
theorem ld_61 (C : Cx K l D ad dA z0 tt cc own nL R) {i : Int32} (hin : vp_in i 8) (hd : decode cc pc = .ok (.baload, 1)) (k : K σ φ (pc + 1) lv (.int (σ 61 i.toNatClampNeg) :: st)) : K σ φ pc lv (.int i :: .ref (ad 61) :: st) := g_zald C 61 (fun f => at_61 ad dA σ f) hin hd k
theorem sd_61 (C : Cx K l D ad dA z0 tt cc own nL R) {i x : Int32} (hin : vp_in i 8) (hd : decode cc pc = .ok (.bastore, 1)) (k : K (va_up σ 61 (upd (σ 61) i.toNatClampNeg (vp_nar .boolean x))) φ (pc + 1) lv st) : K σ φ pc lv (.int x :: .int i :: .ref (ad 61) :: st) := g_zast C 61 (fun f => at_61 ad dA σ f) hin (fun f => set_61 ad dA σ f _) hd k
theorem ld_62 (C : Cx K l D ad dA z0 tt cc own nL R) {i : Int32} (hin : vp_in i 4) (hd : decode cc pc = .ok (.iaload, 1)) (k : K σ φ (pc + 1) lv (.int (σ 62 i.toNatClampNeg) :: st)) : K σ φ pc lv (.int i :: .ref (ad 62) :: st) := g_iald C 62 (fun f => at_62 ad dA σ f) hin hd k
theorem sd_62 (C : Cx K l D ad dA z0 tt cc own nL R) {i x : Int32} (hin : vp_in i 4) (hd : decode cc pc = .ok (.iastore, 1)) (k : K (va_up σ 62 (upd (σ 62) i.toNatClampNeg x)) φ (pc + 1) lv st) : K σ φ pc lv (.int x :: .int i :: .ref (ad 62) :: st) := g_iast C 62 (fun f => at_62 ad dA σ f) hin (fun f => set_62 ad dA σ f _) hd k
theorem ld_63 (C : Cx K l D ad dA z0 tt cc own nL R) {i : Int32} (hin : vp_in i 60) (hd : decode cc pc = .ok (.caload, 1)) (k : K σ φ (pc + 1) lv (.int (σ 63 i.toNatClampNeg) :: st)) : K σ φ pc lv (.int i :: .ref (ad 63) :: st) := g_cald C 63 (fun f => at_63 ad dA σ f) hin hd k
theorem sd_63 (C : Cx K l D ad dA z0 tt cc own nL R) {i x : Int32} (hin : vp_in i 60) (hd : decode cc pc = .ok (.castore, 1)) (k : K (va_up σ 63 (upd (σ 63) i.toNatClampNeg (vp_nar .char x))) φ (pc + 1) lv st) : K σ φ pc lv (.int x :: .int i :: .ref (ad 63) :: st) := g_cast C 63 (fun f => at_63 ad dA σ f) hin (fun f => set_63 ad dA σ f _) hd k
theorem ld_64 (C : Cx K l D ad dA z0 tt cc own nL R) {i : Int32} (hin : vp_in i 20) (hd : decode cc pc = .ok (.iaload, 1)) (k : K σ φ (pc + 1) lv (.int (σ 64 i.toNatClampNeg) :: st)) : K σ φ pc lv (.int i :: .ref (ad 64) :: st) := g_iald C 64 (fun f => at_64 ad dA σ f) hin hd k
theorem sd_64 (C : Cx K l D ad dA z0 tt cc own nL R) {i x : Int32} (hin : vp_in i 20) (hd : decode cc pc = .ok (.iastore, 1)) (k : K (va_up σ 64 (upd (σ 64) i.toNatClampNeg x)) φ (pc + 1) lv st) : K σ φ pc lv (.int x :: .int i :: .ref (ad 64) :: st) := g_iast C 64 (fun f => at_64 ad dA σ f) hin (fun f => set_64 ad dA σ f _) hd k
theorem ld_65 (C : Cx K l D ad dA z0 tt cc own nL R) {i : Int32} (hin : vp_in i 8) (hd : decode cc pc = .ok (.iaload, 1)) (k : K σ φ (pc + 1) lv (.int (σ 65 i.toNatClampNeg) :: st)) : K σ φ pc lv (.int i :: .ref (ad 65) :: st) := g_iald C 65 (fun f => at_65 ad dA σ f) hin hd k
theorem sd_65 (C : Cx K l D ad dA z0 tt cc own nL R) {i x : Int32} (hin : vp_in i 8) (hd : decode cc pc = .ok (.iastore, 1)) (k : K (va_up σ 65 (upd (σ 65) i.toNatClampNeg x)) φ (pc + 1) lv st) : K σ φ pc lv (.int x :: .int i :: .ref (ad 65) :: st) := g_iast C 65 (fun f => at_65 ad dA σ f) hin (fun f => set_65 ad dA σ f _) hd k
theorem ld_66 (C : Cx K l D ad dA z0 tt cc own nL R) {i : Int32} (hin : vp_in i 8) (hd : decode cc pc = .ok (.iaload, 1)) (k : K σ φ (pc + 1) lv (.int (σ 66 i.toNatClampNeg) :: st)) : K σ φ pc lv (.int i :: .ref (ad 66) :: st) := g_iald C 66 (fun f => at_66 ad dA σ f) hin hd k
theorem sd_66 (C : Cx K l D ad dA z0 tt cc own nL R) {i x : Int32} (hin : vp_in i 8) (hd : decode cc pc = .ok (.iastore, 1)) (k : K (va_up σ 66 (upd (σ 66) i.toNatClampNeg x)) φ (pc + 1) lv st) : K σ φ pc lv (.int x :: .int i :: .ref (ad 66) :: st) := g_iast C 66 (fun f => at_66 ad dA σ f) hin (fun f => set_66 ad dA σ f _) hd k
theorem ld_67 (C : Cx K l D ad dA z0 tt cc own nL R) {i : Int32} (hin : vp_in i 8) (hd : decode cc pc = .ok (.baload, 1)) (k : K σ φ (pc + 1) lv (.int (σ 67 i.toNatClampNeg) :: st)) : K σ φ pc lv (.int i :: .ref (ad 67) :: st) := g_zald C 67 (fun f => at_67 ad dA σ f) hin hd k
theorem sd_67 (C : Cx K l D ad dA z0 tt cc own nL R) {i x : Int32} (hin : vp_in i 8) (hd : decode cc pc = .ok (.bastore, 1)) (k : K (va_up σ 67 (upd (σ 67) i.toNatClampNeg (vp_nar .boolean x))) φ (pc + 1) lv st) : K σ φ pc lv (.int x :: .int i :: .ref (ad 67) :: st) := g_zast C 67 (fun f => at_67 ad dA σ f) hin (fun f => set_67 ad dA σ f _) hd k
theorem ld_68 (C : Cx K l D ad dA z0 tt cc own nL R) {i : Int32} (hin : vp_in i 8) (hd : decode cc pc = .ok (.iaload, 1)) (k : K σ φ (pc + 1) lv (.int (σ 68 i.toNatClampNeg) :: st)) : K σ φ pc lv (.int i :: .ref (ad 68) :: st) := g_iald C 68 (fun f => at_68 ad dA σ f) hin hd k
theorem sd_68 (C : Cx K l D ad dA z0 tt cc own nL R) {i x : Int32} (hin : vp_in i 8) (hd : decode cc pc = .ok (.iastore, 1)) (k : K (va_up σ 68 (upd (σ 68) i.toNatClampNeg x)) φ (pc + 1) lv st) : K σ φ pc lv (.int x :: .int i :: .ref (ad 68) :: st) := g_iast C 68 (fun f => at_68 ad dA σ f) hin (fun f => set_68 ad dA σ f _) hd k
theorem ld_69 (C : Cx K l D ad dA z0 tt cc own nL R) {i : Int32} (hin : vp_in i 8) (hd : decode cc pc = .ok (.iaload, 1)) (k : K σ φ (pc + 1) lv (.int (σ 69 i.toNatClampNeg) :: st)) : K σ φ pc lv (.int i :: .ref (ad 69) :: st) := g_iald C 69 (fun f => at_69 ad dA σ f) hin hd k
theorem sd_69 (C : Cx K l D ad dA z0 tt cc own nL R) {i x : Int32} (hin : vp_in i 8) (hd : decode cc pc = .ok (.iastore, 1)) (k : K (va_up σ 69 (upd (σ 69) i.toNatClampNeg x)) φ (pc + 1) lv st) : K σ φ pc lv (.int x :: .int i :: .ref (ad 69) :: st) := g_iast C 69 (fun f => at_69 ad dA σ f) hin (fun f => set_69 ad dA σ f _) hd k
theorem ld_70 (C : Cx K l D ad dA z0 tt cc own nL R) {i : Int32} (hin : vp_in i 8) (hd : decode cc pc = .ok (.iaload, 1)) (k : K σ φ (pc + 1) lv (.int (σ 70 i.toNatClampNeg) :: st)) : K σ φ pc lv (.int i :: .ref (ad 70) :: st) := g_iald C 70 (fun f => at_70 ad dA σ f) hin hd k
theorem sd_70 (C : Cx K l D ad dA z0 tt cc own nL R) {i x : Int32} (hin : vp_in i 8) (hd : decode cc pc = .ok (.iastore, 1)) (k : K (va_up σ 70 (upd (σ 70) i.toNatClampNeg x)) φ (pc + 1) lv st) : K σ φ pc lv (.int x :: .int i :: .ref (ad 70) :: st) := g_iast C 70 (fun f => at_70 ad dA σ f) hin (fun f => set_70 ad dA σ f _) hd k
theorem ld_71 (C : Cx K l D ad dA z0 tt cc own nL R) {i : Int32} (hin : vp_in i 8) (hd : decode cc pc = .ok (.baload, 1)) (k : K σ φ (pc + 1) lv (.int (σ 71 i.toNatClampNeg) :: st)) : K σ φ pc lv (.int i :: .ref (ad 71) :: st) := g_zald C 71 (fun f => at_71 ad dA σ f) hin hd k
theorem sd_71 (C : Cx K l D ad dA z0 tt cc own nL R) {i x : Int32} (hin : vp_in i 8) (hd : decode cc pc = .ok (.bastore, 1)) (k : K (va_up σ 71 (upd (σ 71) i.toNatClampNeg (vp_nar .boolean x))) φ (pc + 1) lv st) : K σ φ pc lv (.int x :: .int i :: .ref (ad 71) :: st) := g_zast C 71 (fun f => at_71 ad dA σ f) hin (fun f => set_71 ad dA σ f _) hd k
theorem ld_72 (C : Cx K l D ad dA z0 tt cc own nL R) {i : Int32} (hin : vp_in i 8) (hd : decode cc pc = .ok (.baload, 1)) (k : K σ φ (pc + 1) lv (.int (σ 72 i.toNatClampNeg) :: st)) : K σ φ pc lv (.int i :: .ref (ad 72) :: st) := g_zald C 72 (fun f => at_72 ad dA σ f) hin hd k
theorem sd_72 (C : Cx K l D ad dA z0 tt cc own nL R) {i x : Int32} (hin : vp_in i 8) (hd : decode cc pc = .ok (.bastore, 1)) (k : K (va_up σ 72 (upd (σ 72) i.toNatClampNeg (vp_nar .boolean x))) φ (pc + 1) lv st) : K σ φ pc lv (.int x :: .int i :: .ref (ad 72) :: st) := g_zast C 72 (fun f => at_72 ad dA σ f) hin (fun f => set_72 ad dA σ f _) hd k
theorem ld_73 (C : Cx K l D ad dA z0 tt cc own nL R) {i : Int32} (hin : vp_in i 8) (hd : decode cc pc = .ok (.faload, 1)) (k : K σ φ (pc + 1) lv (.float (φ 73 i.toNatClampNeg) :: st)) : K σ φ pc lv (.int i :: .ref (ad 73) :: st) := g_fald C 73 (fun f => at_73 ad dA σ f) hin hd k
theorem sd_73 (C : Cx K l D ad dA z0 tt cc own nL R) {i : Int32} {x : UInt32} (hin : vp_in i 8) (hd : decode cc pc = .ok (.fastore, 1)) (k : K σ (va_up φ 73 (vf_upd (φ 73) i.toNatClampNeg x)) (pc + 1) lv st) : K σ φ pc lv (.float x :: .int i :: .ref (ad 73) :: st) := g_fast C 73 (fun f => at_73 ad dA σ f) hin (fun f g => set_73 ad dA σ f g) hd k
theorem ld_74 (C : Cx K l D ad dA z0 tt cc own nL R) {i : Int32} (hin : vp_in i 8) (hd : decode cc pc = .ok (.faload, 1)) (k : K σ φ (pc + 1) lv (.float (φ 74 i.toNatClampNeg) :: st)) : K σ φ pc lv (.int i :: .ref (ad 74) :: st) := g_fald C 74 (fun f => at_74 ad dA σ f) hin hd k
theorem sd_74 (C : Cx K l D ad dA z0 tt cc own nL R) {i : Int32} {x : UInt32} (hin : vp_in i 8) (hd : decode cc pc = .ok (.fastore, 1)) (k : K σ (va_up φ 74 (vf_upd (φ 74) i.toNatClampNeg x)) (pc + 1) lv st) : K σ φ pc lv (.float x :: .int i :: .ref (ad 74) :: st) := g_fast C 74 (fun f => at_74 ad dA σ f) hin (fun f g => set_74 ad dA σ f g) hd k
theorem ld_75 (C : Cx K l D ad dA z0 tt cc own nL R) {i : Int32} (hin : vp_in i 80) (hd : decode cc pc = .ok (.iaload, 1)) (k : K σ φ (pc + 1) lv (.int (σ 75 i.toNatClampNeg) :: st)) : K σ φ pc lv (.int i :: .ref (ad 75) :: st) := g_iald C 75 (fun f => at_75 ad dA σ f) hin hd k
theorem sd_75 (C : Cx K l D ad dA z0 tt cc own nL R) {i x : Int32} (hin : vp_in i 80) (hd : decode cc pc = .ok (.iastore, 1)) (k : K (va_up σ 75 (upd (σ 75) i.toNatClampNeg x)) φ (pc + 1) lv st) : K σ φ pc lv (.int x :: .int i :: .ref (ad 75) :: st) := g_iast C 75 (fun f => at_75 ad dA σ f) hin (fun f => set_75 ad dA σ f _) hd k
theorem ld_76 (C : Cx K l D ad dA z0 tt cc own nL R) {i : Int32} (hin : vp_in i 80) (hd : decode cc pc = .ok (.iaload, 1)) (k : K σ φ (pc + 1) lv (.int (σ 76 i.toNatClampNeg) :: st)) : K σ φ pc lv (.int i :: .ref (ad 76) :: st) := g_iald C 76 (fun f => at_76 ad dA σ f) hin hd k
theorem sd_76 (C : Cx K l D ad dA z0 tt cc own nL R) {i x : Int32} (hin : vp_in i 80) (hd : decode cc pc = .ok (.iastore, 1)) (k : K (va_up σ 76 (upd (σ 76) i.toNatClampNeg x)) φ (pc + 1) lv st) : K σ φ pc lv (.int x :: .int i :: .ref (ad 76) :: st) := g_iast C 76 (fun f => at_76 ad dA σ f) hin (fun f => set_76 ad dA σ f _) hd k
theorem ld_77 (C : Cx K l D ad dA z0 tt cc own nL R) {i : Int32} (hin : vp_in i 80) (hd : decode cc pc = .ok (.iaload, 1)) (k : K σ φ (pc + 1) lv (.int (σ 77 i.toNatClampNeg) :: st)) : K σ φ pc lv (.int i :: .ref (ad 77) :: st) := g_iald C 77 (fun f => at_77 ad dA σ f) hin hd k
theorem sd_77 (C : Cx K l D ad dA z0 tt cc own nL R) {i x : Int32} (hin : vp_in i 80) (hd : decode cc pc = .ok (.iastore, 1)) (k : K (va_up σ 77 (upd (σ 77) i.toNatClampNeg x)) φ (pc + 1) lv st) : K σ φ pc lv (.int x :: .int i :: .ref (ad 77) :: st) := g_iast C 77 (fun f => at_77 ad dA σ f) hin (fun f => set_77 ad dA σ f _) hd k
theorem ld_78 (C : Cx K l D ad dA z0 tt cc own nL R) {i : Int32} (hin : vp_in i 80) (hd : decode cc pc = .ok (.faload, 1)) (k : K σ φ (pc + 1) lv (.float (φ 78 i.toNatClampNeg) :: st)) : K σ φ pc lv (.int i :: .ref (ad 78) :: st) := g_fald C 78 (fun f => at_78 ad dA σ f) hin hd k
theorem sd_78 (C : Cx K l D ad dA z0 tt cc own nL R) {i : Int32} {x : UInt32} (hin : vp_in i 80) (hd : decode cc pc = .ok (.fastore, 1)) (k : K σ (va_up φ 78 (vf_upd (φ 78) i.toNatClampNeg x)) (pc + 1) lv st) : K σ φ pc lv (.float x :: .int i :: .ref (ad 78) :: st) := g_fast C 78 (fun f => at_78 ad dA σ f) hin (fun f g => set_78 ad dA σ f g) hd k
theorem ld_79 (C : Cx K l D ad dA z0 tt cc own nL R) {i : Int32} (hin : vp_in i 80) (hd : decode cc pc = .ok (.faload, 1)) (k : K σ φ (pc + 1) lv (.float (φ 79 i.toNatClampNeg) :: st)) : K σ φ pc lv (.int i :: .ref (ad 79) :: st) := g_fald C 79 (fun f => at_79 ad dA σ f) hin hd k
theorem sd_79 (C : Cx K l D ad dA z0 tt cc own nL R) {i : Int32} {x : UInt32} (hin : vp_in i 80) (hd : decode cc pc = .ok (.fastore, 1)) (k : K σ (va_up φ 79 (vf_upd (φ 79) i.toNatClampNeg x)) (pc + 1) lv st) : K σ φ pc lv (.float x :: .int i :: .ref (ad 79) :: st) := g_fast C 79 (fun f => at_79 ad dA σ f) hin (fun f g => set_79 ad dA σ f g) hd k
theorem ld_80 (C : Cx K l D ad dA z0 tt cc own nL R) {i : Int32} (hin : vp_in i 80) (hd : decode cc pc = .ok (.faload, 1)) (k : K σ φ (pc + 1) lv (.float (φ 80 i.toNatClampNeg) :: st)) : K σ φ pc lv (.int i :: .ref (ad 80) :: st) := g_fald C 80 (fun f => at_80 ad dA σ f) hin hd k
theorem sd_80 (C : Cx K l D ad dA z0 tt cc own nL R) {i : Int32} {x : UInt32} (hin : vp_in i 80) (hd : decode cc pc = .ok (.fastore, 1)) (k : K σ (va_up φ 80 (vf_upd (φ 80) i.toNatClampNeg x)) (pc + 1) lv st) : K σ φ pc lv (.float x :: .int i :: .ref (ad 80) :: st) := g_fast C 80 (fun f => at_80 ad dA σ f) hin (fun f g => set_80 ad dA σ f g) hd k
theorem ld_81 (C : Cx K l D ad dA z0 tt cc own nL R) {i : Int32} (hin : vp_in i 80) (hd : decode cc pc = .ok (.faload, 1)) (k : K σ φ (pc + 1) lv (.float (φ 81 i.toNatClampNeg) :: st)) : K σ φ pc lv (.int i :: .ref (ad 81) :: st) := g_fald C 81 (fun f => at_81 ad dA σ f) hin hd k
theorem sd_81 (C : Cx K l D ad dA z0 tt cc own nL R) {i : Int32} {x : UInt32} (hin : vp_in i 80) (hd : decode cc pc = .ok (.fastore, 1)) (k : K σ (va_up φ 81 (vf_upd (φ 81) i.toNatClampNeg x)) (pc + 1) lv st) : K σ φ pc lv (.float x :: .int i :: .ref (ad 81) :: st) := g_fast C 81 (fun f => at_81 ad dA σ f) hin (fun f g => set_81 ad dA σ f g) hd k
theorem ld_82 (C : Cx K l D ad dA z0 tt cc own nL R) {i : Int32} (hin : vp_in i 8) (hd : decode cc pc = .ok (.iaload, 1)) (k : K σ φ (pc + 1) lv (.int (σ 82 i.toNatClampNeg) :: st)) : K σ φ pc lv (.int i :: .ref (ad 82) :: st) := g_iald C 82 (fun f => at_82 ad dA σ f) hin hd k
theorem sd_82 (C : Cx K l D ad dA z0 tt cc own nL R) {i x : Int32} (hin : vp_in i 8) (hd : decode cc pc = .ok (.iastore, 1)) (k : K (va_up σ 82 (upd (σ 82) i.toNatClampNeg x)) φ (pc + 1) lv st) : K σ φ pc lv (.int x :: .int i :: .ref (ad 82) :: st) := g_iast C 82 (fun f => at_82 ad dA σ f) hin (fun f => set_82 ad dA σ f _) hd k
theorem ld_83 (C : Cx K l D ad dA z0 tt cc own nL R) {i : Int32} (hin : vp_in i 80) (hd : decode cc pc = .ok (.baload, 1)) (k : K σ φ (pc + 1) lv (.int (σ 83 i.toNatClampNeg) :: st)) : K σ φ pc lv (.int i :: .ref (ad 83) :: st) := g_zald C 83 (fun f => at_83 ad dA σ f) hin hd k
theorem sd_83 (C : Cx K l D ad dA z0 tt cc own nL R) {i x : Int32} (hin : vp_in i 80) (hd : decode cc pc = .ok (.bastore, 1)) (k : K (va_up σ 83 (upd (σ 83) i.toNatClampNeg (vp_nar .boolean x))) φ (pc + 1) lv st) : K σ φ pc lv (.int x :: .int i :: .ref (ad 83) :: st) := g_zast C 83 (fun f => at_83 ad dA σ f) hin (fun f => set_83 ad dA σ f _) hd k
theorem ld_row (C : Cx K l D ad dA z0 tt cc own nL R) {r : Nat} {i : Int32} (hr : r < 8) (hin : vp_in i 112) (hd : decode cc pc = .ok (.iaload, 1)) (k : K σ φ (pc + 1) lv (.int (σ (17 + r) i.toNatClampNeg) :: st)) : K σ φ pc lv (.int i :: .ref (ad (17 + r)) :: st) := g_iald C (17 + r) (fun f => at_row ad dA σ f r hr) hin hd k
theorem sd_row (C : Cx K l D ad dA z0 tt cc own nL R) {r : Nat} {i x : Int32} (hr : r < 8) (hin : vp_in i 112) (hd : decode cc pc = .ok (.iastore, 1)) (k : K (va_up σ (17 + r) (upd (σ (17 + r)) i.toNatClampNeg x)) φ (pc + 1) lv st) : K σ φ pc lv (.int x :: .int i :: .ref (ad (17 + r)) :: st) := g_iast C (17 + r) (fun f => at_row ad dA σ f r hr) hin (fun f => set_row ad dA σ f r hr _) hd k
end CELLS
end
section
/-! the words, by their places -/
theorem se_X0_repeatBar : Cond.selects "CompositeDecoder$BarText" yX0_repeatBar yX0_repeatBar ∈ lw_all := lw_in 0 (by decide +kernel) (by decide +kernel)
theorem se_X7_noiseAt : Cond.selects "CompositeDecoder$Picture" yX7_noiseAt yX7_noiseAt ∈ lw_all := lw_in 1 (by decide +kernel) (by decide +kernel)
theorem se_X7_levelAt : Cond.selects "CompositeDecoder$Picture" yX7_levelAt yX7_levelAt ∈ lw_all := lw_in 2 (by decide +kernel) (by decide +kernel)
theorem se_X7_burstAt : Cond.selects "CompositeDecoder$Picture" yX7_burstAt yX7_burstAt ∈ lw_all := lw_in 3 (by decide +kernel) (by decide +kernel)
theorem se_X7_signOf : Cond.selects "CompositeDecoder$Picture" yX7_signOf yX7_signOf ∈ lw_all := lw_in 4 (by decide +kernel) (by decide +kernel)
theorem se_X4_steer : Cond.selects "CompositeDecoder$LineFinder" yX4_steer yX4_steer ∈ lw_all := lw_in 5 (by decide +kernel) (by decide +kernel)
theorem se_X1_sumUp : Cond.selects "CompositeDecoder$Bursts" yX1_sumUp yX1_sumUp ∈ lw_all := lw_in 6 (by decide +kernel) (by decide +kernel)
theorem se_X1_countPair : Cond.selects "CompositeDecoder$Bursts" yX1_countPair yX1_countPair ∈ lw_all := lw_in 7 (by decide +kernel) (by decide +kernel)
theorem se_X3_sumUp : Cond.selects "CompositeDecoder$Combs" yX3_sumUp yX3_sumUp ∈ lw_all := lw_in 8 (by decide +kernel) (by decide +kernel)
theorem se_X3_wayFor : Cond.selects "CompositeDecoder$Combs" yX3_wayFor yX3_wayFor ∈ lw_all := lw_in 9 (by decide +kernel) (by decide +kernel)
theorem se_X3_isNear : Cond.selects "CompositeDecoder$Combs" yX3_isNear yX3_isNear ∈ lw_all := lw_in 10 (by decide +kernel) (by decide +kernel)
theorem se_X3_splitSegment : Cond.selects "CompositeDecoder$Combs" yX3_splitSegment yX3_splitSegment ∈ lw_all := lw_in 11 (by decide +kernel) (by decide +kernel)
theorem se_X2_turnSegment : Cond.selects "CompositeDecoder$Colors" yX2_turnSegment yX2_turnSegment ∈ lw_all := lw_in 12 (by decide +kernel) (by decide +kernel)
theorem se_X2_mixSegment : Cond.selects "CompositeDecoder$Colors" yX2_mixSegment yX2_mixSegment ∈ lw_all := lw_in 13 (by decide +kernel) (by decide +kernel)
theorem se_X5_kindOf : Cond.selects "CompositeDecoder$Movement" yX5_kindOf yX5_kindOf ∈ lw_all := lw_in 14 (by decide +kernel) (by decide +kernel)
theorem se_X5_hasChanged : Cond.selects "CompositeDecoder$Movement" yX5_hasChanged yX5_hasChanged ∈ lw_all := lw_in 15 (by decide +kernel) (by decide +kernel)
theorem se_X10_countOfNow : Cond.selects "CompositeDecoder" yX10_countOfNow yX10_countOfNow ∈ lw_all := lw_in 16 (by decide +kernel) (by decide +kernel)
theorem se_X10_countOfDecoding : Cond.selects "CompositeDecoder" yX10_countOfDecoding yX10_countOfDecoding ∈ lw_all := lw_in 17 (by decide +kernel) (by decide +kernel)
theorem se_X10_wrongLumas : Cond.selects "CompositeDecoder" yX10_wrongLumas yX10_wrongLumas ∈ lw_all := lw_in 18 (by decide +kernel) (by decide +kernel)
theorem se_X10_lumaDifferences : Cond.selects "CompositeDecoder" yX10_lumaDifferences yX10_lumaDifferences ∈ lw_all := lw_in 19 (by decide +kernel) (by decide +kernel)
theorem se_X11_put : Cond.selects "CompositeDecoderModel" yX11_put yX11_put ∈ lw_all := lw_in 20 (by decide +kernel) (by decide +kernel)
theorem se_X11_putBar : Cond.selects "CompositeDecoderModel" yX11_putBar yX11_putBar ∈ lw_all := lw_in 21 (by decide +kernel) (by decide +kernel)
theorem se_X11_signal : Cond.selects "CompositeDecoderModel" yX11_signal yX11_signal ∈ lw_all := lw_in 22 (by decide +kernel) (by decide +kernel)
theorem se_X11_findPulses : Cond.selects "CompositeDecoderModel" yX11_findPulses yX11_findPulses ∈ lw_all := lw_in 23 (by decide +kernel) (by decide +kernel)
theorem se_X11_findPulse : Cond.selects "CompositeDecoderModel" yX11_findPulse yX11_findPulse ∈ lw_all := lw_in 24 (by decide +kernel) (by decide +kernel)
theorem se_X11_findBursts : Cond.selects "CompositeDecoderModel" yX11_findBursts yX11_findBursts ∈ lw_all := lw_in 25 (by decide +kernel) (by decide +kernel)
theorem se_X11_guessed : Cond.selects "CompositeDecoderModel" yX11_guessed yX11_guessed ∈ lw_all := lw_in 26 (by decide +kernel) (by decide +kernel)
theorem se_X11_findTurns : Cond.selects "CompositeDecoderModel" yX11_findTurns yX11_findTurns ∈ lw_all := lw_in 27 (by decide +kernel) (by decide +kernel)
theorem se_X11_comb : Cond.selects "CompositeDecoderModel" yX11_comb yX11_comb ∈ lw_all := lw_in 28 (by decide +kernel) (by decide +kernel)
theorem se_X11_way : Cond.selects "CompositeDecoderModel" yX11_way yX11_way ∈ lw_all := lw_in 29 (by decide +kernel) (by decide +kernel)
theorem se_X11_isNear : Cond.selects "CompositeDecoderModel" yX11_isNear yX11_isNear ∈ lw_all := lw_in 30 (by decide +kernel) (by decide +kernel)
theorem se_X11_sumOf : Cond.selects "CompositeDecoderModel" yX11_sumOf yX11_sumOf ∈ lw_all := lw_in 31 (by decide +kernel) (by decide +kernel)
theorem se_X11_from : Cond.selects "CompositeDecoderModel" yX11_from yX11_from ∈ lw_all := lw_in 32 (by decide +kernel) (by decide +kernel)
theorem se_X11_chromaAt : Cond.selects "CompositeDecoderModel" yX11_chromaAt yX11_chromaAt ∈ lw_all := lw_in 33 (by decide +kernel) (by decide +kernel)
theorem se_X11_findMotion : Cond.selects "CompositeDecoderModel" yX11_findMotion yX11_findMotion ∈ lw_all := lw_in 34 (by decide +kernel) (by decide +kernel)
theorem se_X11_motionAt : Cond.selects "CompositeDecoderModel" yX11_motionAt yX11_motionAt ∈ lw_all := lw_in 35 (by decide +kernel) (by decide +kernel)
theorem se_X11_segments : Cond.selects "CompositeDecoderModel" yX11_segments yX11_segments ∈ lw_all := lw_in 36 (by decide +kernel) (by decide +kernel)
theorem se_X11_linesWithColor : Cond.selects "CompositeDecoderModel" yX11_linesWithColor yX11_linesWithColor ∈ lw_all := lw_in 37 (by decide +kernel) (by decide +kernel)
theorem in_L : Cond.initialized "CompositeDecoderLaw" ∈ lw_all := lw_in 38 (by decide +kernel) (by decide +kernel)
theorem in_X10 : Cond.initialized "CompositeDecoder" ∈ lw_all := lw_in 39 (by decide +kernel) (by decide +kernel)
theorem in_X7 : Cond.initialized "CompositeDecoder$Picture" ∈ lw_all := lw_in 40 (by decide +kernel) (by decide +kernel)
theorem in_X0 : Cond.initialized "CompositeDecoder$BarText" ∈ lw_all := lw_in 41 (by decide +kernel) (by decide +kernel)
theorem in_X8 : Cond.initialized "CompositeDecoder$Settings" ∈ lw_all := lw_in 42 (by decide +kernel) (by decide +kernel)
theorem in_X9 : Cond.initialized "CompositeDecoder$Signal" ∈ lw_all := lw_in 43 (by decide +kernel) (by decide +kernel)
theorem in_X4 : Cond.initialized "CompositeDecoder$LineFinder" ∈ lw_all := lw_in 44 (by decide +kernel) (by decide +kernel)
theorem in_X1 : Cond.initialized "CompositeDecoder$Bursts" ∈ lw_all := lw_in 45 (by decide +kernel) (by decide +kernel)
theorem in_X6 : Cond.initialized "CompositeDecoder$PhaseReference" ∈ lw_all := lw_in 46 (by decide +kernel) (by decide +kernel)
theorem in_X3 : Cond.initialized "CompositeDecoder$Combs" ∈ lw_all := lw_in 47 (by decide +kernel) (by decide +kernel)
theorem in_X2 : Cond.initialized "CompositeDecoder$Colors" ∈ lw_all := lw_in 48 (by decide +kernel) (by decide +kernel)
theorem in_X5 : Cond.initialized "CompositeDecoder$Movement" ∈ lw_all := lw_in 49 (by decide +kernel) (by decide +kernel)
theorem in_X11 : Cond.initialized "CompositeDecoderModel" ∈ lw_all := lw_in 50 (by decide +kernel) (by decide +kernel)
theorem in_J9 : Cond.initialized "java/lang/Math" ∈ lw_all := lw_in 51 (by decide +kernel) (by decide +kernel)
theorem in_J10 : Cond.initialized "java/lang/System" ∈ lw_all := lw_in 52 (by decide +kernel) (by decide +kernel)
theorem cl_L_7 : Cond.classLink "CompositeDecoderLaw" 7 "CompositeDecoder" ∈ lw_all := lw_in 53 (by decide +kernel) (by decide +kernel)
theorem it_X10 : Cond.instantiable "CompositeDecoder" 11 ∈ lw_all := lw_in 54 (by decide +kernel) (by decide +kernel)
theorem ml_L_9 : Cond.methodLink "CompositeDecoderLaw" 9 yX10_init ∈ lw_all := lw_in 55 (by decide +kernel) (by decide +kernel)
theorem im_X10_init : Cond.instanceMethod yX10_init ∈ lw_all := lw_in 56 (by decide +kernel) (by decide +kernel)
theorem co_X10_init : Cond.code yX10_init cX10_init 1 none ∈ lw_all := lw_in 57 (by decide +kernel) (by decide +kernel)
theorem ml_X10_1 : Cond.methodLink "CompositeDecoder" 1 objectInit ∈ lw_all := lw_in 58 (by decide +kernel) (by decide +kernel)
theorem im_objectInit : Cond.instanceMethod objectInit ∈ lw_all := lw_in 59 (by decide +kernel) (by decide +kernel)
theorem co_objectInit : Cond.code objectInit ⟨#[0xb1]⟩ 1 none ∈ lw_all := lw_in 60 (by decide +kernel) (by decide +kernel)
theorem cl_X10_7 : Cond.classLink "CompositeDecoder" 7 "CompositeDecoder$Picture" ∈ lw_all := lw_in 61 (by decide +kernel) (by decide +kernel)
theorem it_X7 : Cond.instantiable "CompositeDecoder$Picture" 9 ∈ lw_all := lw_in 62 (by decide +kernel) (by decide +kernel)
theorem ml_X10_9 : Cond.methodLink "CompositeDecoder" 9 yX7_init ∈ lw_all := lw_in 63 (by decide +kernel) (by decide +kernel)
theorem im_X7_init : Cond.instanceMethod yX7_init ∈ lw_all := lw_in 64 (by decide +kernel) (by decide +kernel)
theorem co_X7_init : Cond.code yX7_init cX7_init 2 none ∈ lw_all := lw_in 65 (by decide +kernel) (by decide +kernel)
theorem ml_X7_3 : Cond.methodLink "CompositeDecoder$Picture" 3 objectInit ∈ lw_all := lw_in 66 (by decide +kernel) (by decide +kernel)
theorem fl_X7_9 : Cond.fieldLink "CompositeDecoder$Picture" 9 "CompositeDecoder$Picture" "lumas" "[I" ∈ lw_all := lw_in 67 (by decide +kernel) (by decide +kernel)
theorem fl_X10_93 : Cond.fieldLinkNest "CompositeDecoder" 93 "CompositeDecoder$Picture" "lumas" "[I" "CompositeDecoder" ∈ lw_nest := lw_inN 68 (by decide +kernel) (by decide +kernel)
theorem fl_X7_15 : Cond.fieldLink "CompositeDecoder$Picture" 15 "CompositeDecoder$Picture" "us" "[I" ∈ lw_all := lw_in 69 (by decide +kernel) (by decide +kernel)
theorem fl_X7_18 : Cond.fieldLink "CompositeDecoder$Picture" 18 "CompositeDecoder$Picture" "vs" "[I" ∈ lw_all := lw_in 70 (by decide +kernel) (by decide +kernel)
theorem fl_X7_21 : Cond.fieldLink "CompositeDecoder$Picture" 21 "CompositeDecoder$Picture" "jitters" "[I" ∈ lw_all := lw_in 71 (by decide +kernel) (by decide +kernel)
theorem fl_X10_108 : Cond.fieldLinkNest "CompositeDecoder" 108 "CompositeDecoder$Picture" "jitters" "[I" "CompositeDecoder" ∈ lw_nest := lw_inN 72 (by decide +kernel) (by decide +kernel)
theorem fl_X7_24 : Cond.fieldLink "CompositeDecoder$Picture" 24 "CompositeDecoder$Picture" "amplitudes" "[I" ∈ lw_all := lw_in 73 (by decide +kernel) (by decide +kernel)
theorem fl_X10_111 : Cond.fieldLinkNest "CompositeDecoder" 111 "CompositeDecoder$Picture" "amplitudes" "[I" "CompositeDecoder" ∈ lw_nest := lw_inN 74 (by decide +kernel) (by decide +kernel)
theorem fl_X7_27 : Cond.fieldLink "CompositeDecoder$Picture" 27 "CompositeDecoder$Picture" "phases" "[I" ∈ lw_all := lw_in 75 (by decide +kernel) (by decide +kernel)
theorem fl_X10_114 : Cond.fieldLinkNest "CompositeDecoder" 114 "CompositeDecoder$Picture" "phases" "[I" "CompositeDecoder" ∈ lw_nest := lw_inN 76 (by decide +kernel) (by decide +kernel)
theorem fl_X7_30 : Cond.fieldLink "CompositeDecoder$Picture" 30 "CompositeDecoder$Picture" "noises" "[I" ∈ lw_all := lw_in 77 (by decide +kernel) (by decide +kernel)
theorem fl_X10_116 : Cond.fieldLinkNest "CompositeDecoder" 116 "CompositeDecoder$Picture" "noises" "[I" "CompositeDecoder" ∈ lw_nest := lw_inN 78 (by decide +kernel) (by decide +kernel)
theorem fl_X7_33 : Cond.fieldLink "CompositeDecoder$Picture" 33 "CompositeDecoder$Picture" "missing" "[Z" ∈ lw_all := lw_in 79 (by decide +kernel) (by decide +kernel)
theorem fl_X10_119 : Cond.fieldLinkNest "CompositeDecoder" 119 "CompositeDecoder$Picture" "missing" "[Z" "CompositeDecoder" ∈ lw_nest := lw_inN 80 (by decide +kernel) (by decide +kernel)
theorem fl_X7_69 : Cond.fieldLink "CompositeDecoder$Picture" 69 "CompositeDecoder$Picture" "standard" "I" ∈ lw_all := lw_in 81 (by decide +kernel) (by decide +kernel)
theorem fl_X10_127 : Cond.fieldLinkNest "CompositeDecoder" 127 "CompositeDecoder$Picture" "standard" "I" "CompositeDecoder" ∈ lw_nest := lw_inN 82 (by decide +kernel) (by decide +kernel)
theorem ac_int : Cond.arrayClass .int ∈ lw_all := lw_in 102 (by decide +kernel) (by decide +kernel)
theorem ac_boolean : Cond.arrayClass .boolean ∈ lw_all := lw_in 103 (by decide +kernel) (by decide +kernel)
theorem cl_X10_16 : Cond.classLink "CompositeDecoder" 16 "CompositeDecoder$BarText" ∈ lw_all := lw_in 104 (by decide +kernel) (by decide +kernel)
theorem it_X0 : Cond.instantiable "CompositeDecoder$BarText" 4 ∈ lw_all := lw_in 105 (by decide +kernel) (by decide +kernel)
theorem ml_X10_18 : Cond.methodLinkNest "CompositeDecoder" 18 yX0_init "CompositeDecoder" ∈ lw_nest := lw_inN 106 (by decide +kernel) (by decide +kernel)
theorem im_X0_init : Cond.instanceMethod yX0_init ∈ lw_all := lw_in 107 (by decide +kernel) (by decide +kernel)
theorem co_X0_init : Cond.code yX0_init cX0_init 1 none ∈ lw_all := lw_in 108 (by decide +kernel) (by decide +kernel)
theorem ml_X0_3 : Cond.methodLink "CompositeDecoder$BarText" 3 objectInit ∈ lw_all := lw_in 109 (by decide +kernel) (by decide +kernel)
theorem fl_X0_11 : Cond.fieldLink "CompositeDecoder$BarText" 11 "CompositeDecoder$BarText" "characters" "[C" ∈ lw_all := lw_in 110 (by decide +kernel) (by decide +kernel)
theorem fl_X0_19 : Cond.fieldLink "CompositeDecoder$BarText" 19 "CompositeDecoder$BarText" "used" "I" ∈ lw_all := lw_in 111 (by decide +kernel) (by decide +kernel)
theorem fl_X10_135 : Cond.fieldLinkNest "CompositeDecoder" 135 "CompositeDecoder$BarText" "used" "I" "CompositeDecoder" ∈ lw_nest := lw_inN 112 (by decide +kernel) (by decide +kernel)
theorem fl_X0_15 : Cond.fieldLink "CompositeDecoder$BarText" 15 "CompositeDecoder$BarText" "bars" "[I" ∈ lw_all := lw_in 113 (by decide +kernel) (by decide +kernel)
theorem fl_X0_23 : Cond.fieldLink "CompositeDecoder$BarText" 23 "CompositeDecoder$BarText" "letters" "I" ∈ lw_all := lw_in 114 (by decide +kernel) (by decide +kernel)
theorem fl_X10_147 : Cond.fieldLinkNest "CompositeDecoder" 147 "CompositeDecoder$BarText" "letters" "I" "CompositeDecoder" ∈ lw_nest := lw_inN 115 (by decide +kernel) (by decide +kernel)
theorem ac_char : Cond.arrayClass .char ∈ lw_all := lw_in 125 (by decide +kernel) (by decide +kernel)
theorem cl_X10_23 : Cond.classLink "CompositeDecoder" 23 "CompositeDecoder$Settings" ∈ lw_all := lw_in 126 (by decide +kernel) (by decide +kernel)
theorem it_X8 : Cond.instantiable "CompositeDecoder$Settings" 1 ∈ lw_all := lw_in 127 (by decide +kernel) (by decide +kernel)
theorem ml_X10_25 : Cond.methodLinkNest "CompositeDecoder" 25 yX8_init "CompositeDecoder" ∈ lw_nest := lw_inN 128 (by decide +kernel) (by decide +kernel)
theorem im_X8_init : Cond.instanceMethod yX8_init ∈ lw_all := lw_in 129 (by decide +kernel) (by decide +kernel)
theorem co_X8_init : Cond.code yX8_init cX8_init 1 none ∈ lw_all := lw_in 130 (by decide +kernel) (by decide +kernel)
theorem ml_X8_1 : Cond.methodLink "CompositeDecoder$Settings" 1 objectInit ∈ lw_all := lw_in 131 (by decide +kernel) (by decide +kernel)
theorem fl_X8_9 : Cond.fieldLink "CompositeDecoder$Settings" 9 "CompositeDecoder$Settings" "values" "[I" ∈ lw_all := lw_in 132 (by decide +kernel) (by decide +kernel)
theorem fl_X10_156 : Cond.fieldLinkNest "CompositeDecoder" 156 "CompositeDecoder$Settings" "values" "[I" "CompositeDecoder" ∈ lw_nest := lw_inN 133 (by decide +kernel) (by decide +kernel)
theorem cl_X10_30 : Cond.classLink "CompositeDecoder" 30 "CompositeDecoder$Signal" ∈ lw_all := lw_in 137 (by decide +kernel) (by decide +kernel)
theorem it_X9 : Cond.instantiable "CompositeDecoder$Signal" 1 ∈ lw_all := lw_in 138 (by decide +kernel) (by decide +kernel)
theorem ml_X10_32 : Cond.methodLinkNest "CompositeDecoder" 32 yX9_init "CompositeDecoder" ∈ lw_nest := lw_inN 139 (by decide +kernel) (by decide +kernel)
theorem im_X9_init : Cond.instanceMethod yX9_init ∈ lw_all := lw_in 140 (by decide +kernel) (by decide +kernel)
theorem co_X9_init : Cond.code yX9_init cX9_init 1 none ∈ lw_all := lw_in 141 (by decide +kernel) (by decide +kernel)
theorem ml_X9_3 : Cond.methodLink "CompositeDecoder$Signal" 3 objectInit ∈ lw_all := lw_in 142 (by decide +kernel) (by decide +kernel)
theorem cl_X9_9 : Cond.classLink "CompositeDecoder$Signal" 9 "[[I" ∈ lw_all := lw_in 143 (by decide +kernel) (by decide +kernel)
theorem fl_X9_11 : Cond.fieldLink "CompositeDecoder$Signal" 11 "CompositeDecoder$Signal" "rows" "[[I" ∈ lw_all := lw_in 145 (by decide +kernel) (by decide +kernel)
theorem cl_X10_37 : Cond.classLink "CompositeDecoder" 37 "CompositeDecoder$LineFinder" ∈ lw_all := lw_in 149 (by decide +kernel) (by decide +kernel)
theorem it_X4 : Cond.instantiable "CompositeDecoder$LineFinder" 8 ∈ lw_all := lw_in 150 (by decide +kernel) (by decide +kernel)
theorem ml_X10_39 : Cond.methodLinkNest "CompositeDecoder" 39 yX4_init "CompositeDecoder" ∈ lw_nest := lw_inN 151 (by decide +kernel) (by decide +kernel)
theorem im_X4_init : Cond.instanceMethod yX4_init ∈ lw_all := lw_in 152 (by decide +kernel) (by decide +kernel)
theorem co_X4_init : Cond.code yX4_init cX4_init 1 none ∈ lw_all := lw_in 153 (by decide +kernel) (by decide +kernel)
theorem ml_X4_3 : Cond.methodLink "CompositeDecoder$LineFinder" 3 objectInit ∈ lw_all := lw_in 154 (by decide +kernel) (by decide +kernel)
theorem fl_X4_9 : Cond.fieldLink "CompositeDecoder$LineFinder" 9 "CompositeDecoder$LineFinder" "pulses" "[I" ∈ lw_all := lw_in 155 (by decide +kernel) (by decide +kernel)
theorem fl_X10_215 : Cond.fieldLinkNest "CompositeDecoder" 215 "CompositeDecoder$LineFinder" "pulses" "[I" "CompositeDecoder" ∈ lw_nest := lw_inN 156 (by decide +kernel) (by decide +kernel)
theorem fl_X4_15 : Cond.fieldLink "CompositeDecoder$LineFinder" 15 "CompositeDecoder$LineFinder" "starts" "[I" ∈ lw_all := lw_in 157 (by decide +kernel) (by decide +kernel)
theorem fl_X10_167 : Cond.fieldLinkNest "CompositeDecoder" 167 "CompositeDecoder$LineFinder" "starts" "[I" "CompositeDecoder" ∈ lw_nest := lw_inN 158 (by decide +kernel) (by decide +kernel)
theorem fl_X4_18 : Cond.fieldLink "CompositeDecoder$LineFinder" 18 "CompositeDecoder$LineFinder" "positions" "[I" ∈ lw_all := lw_in 159 (by decide +kernel) (by decide +kernel)
theorem fl_X10_230 : Cond.fieldLinkNest "CompositeDecoder" 230 "CompositeDecoder$LineFinder" "positions" "[I" "CompositeDecoder" ∈ lw_nest := lw_inN 160 (by decide +kernel) (by decide +kernel)
theorem fl_X4_21 : Cond.fieldLink "CompositeDecoder$LineFinder" 21 "CompositeDecoder$LineFinder" "locked" "[Z" ∈ lw_all := lw_in 161 (by decide +kernel) (by decide +kernel)
theorem fl_X10_207 : Cond.fieldLinkNest "CompositeDecoder" 207 "CompositeDecoder$LineFinder" "locked" "[Z" "CompositeDecoder" ∈ lw_nest := lw_inN 162 (by decide +kernel) (by decide +kernel)
theorem fl_X4_25 : Cond.fieldLink "CompositeDecoder$LineFinder" 25 "CompositeDecoder$LineFinder" "position" "I" ∈ lw_all := lw_in 163 (by decide +kernel) (by decide +kernel)
theorem fl_X4_29 : Cond.fieldLink "CompositeDecoder$LineFinder" 29 "CompositeDecoder$LineFinder" "hits" "I" ∈ lw_all := lw_in 164 (by decide +kernel) (by decide +kernel)
theorem fl_X4_32 : Cond.fieldLink "CompositeDecoder$LineFinder" 32 "CompositeDecoder$LineFinder" "misses" "I" ∈ lw_all := lw_in 165 (by decide +kernel) (by decide +kernel)
theorem fl_X4_35 : Cond.fieldLink "CompositeDecoder$LineFinder" 35 "CompositeDecoder$LineFinder" "isLocked" "Z" ∈ lw_all := lw_in 166 (by decide +kernel) (by decide +kernel)
theorem cl_X10_44 : Cond.classLink "CompositeDecoder" 44 "CompositeDecoder$Bursts" ∈ lw_all := lw_in 184 (by decide +kernel) (by decide +kernel)
theorem it_X1 : Cond.instantiable "CompositeDecoder$Bursts" 6 ∈ lw_all := lw_in 185 (by decide +kernel) (by decide +kernel)
theorem ml_X10_46 : Cond.methodLinkNest "CompositeDecoder" 46 yX1_init "CompositeDecoder" ∈ lw_nest := lw_inN 186 (by decide +kernel) (by decide +kernel)
theorem im_X1_init : Cond.instanceMethod yX1_init ∈ lw_all := lw_in 187 (by decide +kernel) (by decide +kernel)
theorem co_X1_init : Cond.code yX1_init cX1_init 1 none ∈ lw_all := lw_in 188 (by decide +kernel) (by decide +kernel)
theorem ml_X1_3 : Cond.methodLink "CompositeDecoder$Bursts" 3 objectInit ∈ lw_all := lw_in 189 (by decide +kernel) (by decide +kernel)
theorem fl_X1_9 : Cond.fieldLink "CompositeDecoder$Bursts" 9 "CompositeDecoder$Bursts" "sines" "[I" ∈ lw_all := lw_in 190 (by decide +kernel) (by decide +kernel)
theorem fl_X6_24 : Cond.fieldLinkNest "CompositeDecoder$PhaseReference" 24 "CompositeDecoder$Bursts" "sines" "[I" "CompositeDecoder" ∈ lw_nest := lw_inN 191 (by decide +kernel) (by decide +kernel)
theorem fl_X10_218 : Cond.fieldLinkNest "CompositeDecoder" 218 "CompositeDecoder$Bursts" "sines" "[I" "CompositeDecoder" ∈ lw_nest := lw_inN 192 (by decide +kernel) (by decide +kernel)
theorem fl_X1_15 : Cond.fieldLink "CompositeDecoder$Bursts" 15 "CompositeDecoder$Bursts" "cosines" "[I" ∈ lw_all := lw_in 193 (by decide +kernel) (by decide +kernel)
theorem fl_X6_31 : Cond.fieldLinkNest "CompositeDecoder$PhaseReference" 31 "CompositeDecoder$Bursts" "cosines" "[I" "CompositeDecoder" ∈ lw_nest := lw_inN 194 (by decide +kernel) (by decide +kernel)
theorem fl_X10_221 : Cond.fieldLinkNest "CompositeDecoder" 221 "CompositeDecoder$Bursts" "cosines" "[I" "CompositeDecoder" ∈ lw_nest := lw_inN 195 (by decide +kernel) (by decide +kernel)
theorem fl_X1_18 : Cond.fieldLink "CompositeDecoder$Bursts" 18 "CompositeDecoder$Bursts" "good" "[Z" ∈ lw_all := lw_in 196 (by decide +kernel) (by decide +kernel)
theorem fl_X6_18 : Cond.fieldLinkNest "CompositeDecoder$PhaseReference" 18 "CompositeDecoder$Bursts" "good" "[Z" "CompositeDecoder" ∈ lw_nest := lw_inN 197 (by decide +kernel) (by decide +kernel)
theorem fl_X10_224 : Cond.fieldLinkNest "CompositeDecoder" 224 "CompositeDecoder$Bursts" "good" "[Z" "CompositeDecoder" ∈ lw_nest := lw_inN 198 (by decide +kernel) (by decide +kernel)
theorem fl_X1_22 : Cond.fieldLink "CompositeDecoder$Bursts" 22 "CompositeDecoder$Bursts" "colorOn" "[Z" ∈ lw_all := lw_in 199 (by decide +kernel) (by decide +kernel)
theorem fl_X2_24 : Cond.fieldLinkNest "CompositeDecoder$Colors" 24 "CompositeDecoder$Bursts" "colorOn" "[Z" "CompositeDecoder" ∈ lw_nest := lw_inN 200 (by decide +kernel) (by decide +kernel)
theorem fl_X10_227 : Cond.fieldLinkNest "CompositeDecoder" 227 "CompositeDecoder$Bursts" "colorOn" "[Z" "CompositeDecoder" ∈ lw_nest := lw_inN 201 (by decide +kernel) (by decide +kernel)
theorem fl_X1_25 : Cond.fieldLink "CompositeDecoder$Bursts" 25 "CompositeDecoder$Bursts" "turnedPairs" "I" ∈ lw_all := lw_in 202 (by decide +kernel) (by decide +kernel)
theorem fl_X10_257 : Cond.fieldLinkNest "CompositeDecoder" 257 "CompositeDecoder$Bursts" "turnedPairs" "I" "CompositeDecoder" ∈ lw_nest := lw_inN 203 (by decide +kernel) (by decide +kernel)
theorem fl_X1_29 : Cond.fieldLink "CompositeDecoder$Bursts" 29 "CompositeDecoder$Bursts" "steadyPairs" "I" ∈ lw_all := lw_in 204 (by decide +kernel) (by decide +kernel)
theorem fl_X10_260 : Cond.fieldLinkNest "CompositeDecoder" 260 "CompositeDecoder$Bursts" "steadyPairs" "I" "CompositeDecoder" ∈ lw_nest := lw_inN 205 (by decide +kernel) (by decide +kernel)
theorem cl_X10_51 : Cond.classLink "CompositeDecoder" 51 "CompositeDecoder$PhaseReference" ∈ lw_all := lw_in 219 (by decide +kernel) (by decide +kernel)
theorem it_X6 : Cond.instantiable "CompositeDecoder$PhaseReference" 2 ∈ lw_all := lw_in 220 (by decide +kernel) (by decide +kernel)
theorem ml_X10_53 : Cond.methodLinkNest "CompositeDecoder" 53 yX6_init "CompositeDecoder" ∈ lw_nest := lw_inN 221 (by decide +kernel) (by decide +kernel)
theorem im_X6_init : Cond.instanceMethod yX6_init ∈ lw_all := lw_in 222 (by decide +kernel) (by decide +kernel)
theorem co_X6_init : Cond.code yX6_init cX6_init 1 none ∈ lw_all := lw_in 223 (by decide +kernel) (by decide +kernel)
theorem ml_X6_3 : Cond.methodLink "CompositeDecoder$PhaseReference" 3 objectInit ∈ lw_all := lw_in 224 (by decide +kernel) (by decide +kernel)
theorem fl_X6_9 : Cond.fieldLink "CompositeDecoder$PhaseReference" 9 "CompositeDecoder$PhaseReference" "sines" "[F" ∈ lw_all := lw_in 225 (by decide +kernel) (by decide +kernel)
theorem fl_X2_30 : Cond.fieldLinkNest "CompositeDecoder$Colors" 30 "CompositeDecoder$PhaseReference" "sines" "[F" "CompositeDecoder" ∈ lw_nest := lw_inN 226 (by decide +kernel) (by decide +kernel)
theorem fl_X10_244 : Cond.fieldLinkNest "CompositeDecoder" 244 "CompositeDecoder$PhaseReference" "sines" "[F" "CompositeDecoder" ∈ lw_nest := lw_inN 227 (by decide +kernel) (by decide +kernel)
theorem fl_X6_15 : Cond.fieldLink "CompositeDecoder$PhaseReference" 15 "CompositeDecoder$PhaseReference" "cosines" "[F" ∈ lw_all := lw_in 228 (by decide +kernel) (by decide +kernel)
theorem fl_X2_35 : Cond.fieldLinkNest "CompositeDecoder$Colors" 35 "CompositeDecoder$PhaseReference" "cosines" "[F" "CompositeDecoder" ∈ lw_nest := lw_inN 229 (by decide +kernel) (by decide +kernel)
theorem fl_X10_246 : Cond.fieldLinkNest "CompositeDecoder" 246 "CompositeDecoder$PhaseReference" "cosines" "[F" "CompositeDecoder" ∈ lw_nest := lw_inN 230 (by decide +kernel) (by decide +kernel)
theorem ac_float : Cond.arrayClass .float ∈ lw_all := lw_in 236 (by decide +kernel) (by decide +kernel)
theorem cl_X10_58 : Cond.classLink "CompositeDecoder" 58 "CompositeDecoder$Combs" ∈ lw_all := lw_in 237 (by decide +kernel) (by decide +kernel)
theorem it_X3 : Cond.instantiable "CompositeDecoder$Combs" 5 ∈ lw_all := lw_in 238 (by decide +kernel) (by decide +kernel)
theorem ml_X10_60 : Cond.methodLinkNest "CompositeDecoder" 60 yX3_init "CompositeDecoder" ∈ lw_nest := lw_inN 239 (by decide +kernel) (by decide +kernel)
theorem im_X3_init : Cond.instanceMethod yX3_init ∈ lw_all := lw_in 240 (by decide +kernel) (by decide +kernel)
theorem co_X3_init : Cond.code yX3_init cX3_init 1 none ∈ lw_all := lw_in 241 (by decide +kernel) (by decide +kernel)
theorem ml_X3_3 : Cond.methodLink "CompositeDecoder$Combs" 3 objectInit ∈ lw_all := lw_in 242 (by decide +kernel) (by decide +kernel)
theorem fl_X3_9 : Cond.fieldLink "CompositeDecoder$Combs" 9 "CompositeDecoder$Combs" "sums" "[I" ∈ lw_all := lw_in 243 (by decide +kernel) (by decide +kernel)
theorem fl_X3_15 : Cond.fieldLink "CompositeDecoder$Combs" 15 "CompositeDecoder$Combs" "lumas" "[I" ∈ lw_all := lw_in 244 (by decide +kernel) (by decide +kernel)
theorem fl_X10_196 : Cond.fieldLinkNest "CompositeDecoder" 196 "CompositeDecoder$Combs" "lumas" "[I" "CompositeDecoder" ∈ lw_nest := lw_inN 245 (by decide +kernel) (by decide +kernel)
theorem fl_X3_18 : Cond.fieldLink "CompositeDecoder$Combs" 18 "CompositeDecoder$Combs" "ways" "[I" ∈ lw_all := lw_in 246 (by decide +kernel) (by decide +kernel)
theorem fl_X10_233 : Cond.fieldLinkNest "CompositeDecoder" 233 "CompositeDecoder$Combs" "ways" "[I" "CompositeDecoder" ∈ lw_nest := lw_inN 247 (by decide +kernel) (by decide +kernel)
theorem fl_X3_21 : Cond.fieldLink "CompositeDecoder$Combs" 21 "CompositeDecoder$Combs" "sines" "[I" ∈ lw_all := lw_in 248 (by decide +kernel) (by decide +kernel)
theorem fl_X2_50 : Cond.fieldLinkNest "CompositeDecoder$Colors" 50 "CompositeDecoder$Combs" "sines" "[I" "CompositeDecoder" ∈ lw_nest := lw_inN 249 (by decide +kernel) (by decide +kernel)
theorem fl_X3_24 : Cond.fieldLink "CompositeDecoder$Combs" 24 "CompositeDecoder$Combs" "cosines" "[I" ∈ lw_all := lw_in 250 (by decide +kernel) (by decide +kernel)
theorem fl_X2_56 : Cond.fieldLinkNest "CompositeDecoder$Colors" 56 "CompositeDecoder$Combs" "cosines" "[I" "CompositeDecoder" ∈ lw_nest := lw_inN 251 (by decide +kernel) (by decide +kernel)
theorem cl_X10_65 : Cond.classLink "CompositeDecoder" 65 "CompositeDecoder$Colors" ∈ lw_all := lw_in 263 (by decide +kernel) (by decide +kernel)
theorem it_X2 : Cond.instantiable "CompositeDecoder$Colors" 4 ∈ lw_all := lw_in 264 (by decide +kernel) (by decide +kernel)
theorem ml_X10_67 : Cond.methodLinkNest "CompositeDecoder" 67 yX2_init "CompositeDecoder" ∈ lw_nest := lw_inN 265 (by decide +kernel) (by decide +kernel)
theorem im_X2_init : Cond.instanceMethod yX2_init ∈ lw_all := lw_in 266 (by decide +kernel) (by decide +kernel)
theorem co_X2_init : Cond.code yX2_init cX2_init 1 none ∈ lw_all := lw_in 267 (by decide +kernel) (by decide +kernel)
theorem ml_X2_3 : Cond.methodLink "CompositeDecoder$Colors" 3 objectInit ∈ lw_all := lw_in 268 (by decide +kernel) (by decide +kernel)
theorem fl_X2_9 : Cond.fieldLink "CompositeDecoder$Colors" 9 "CompositeDecoder$Colors" "rawUs" "[F" ∈ lw_all := lw_in 269 (by decide +kernel) (by decide +kernel)
theorem fl_X2_15 : Cond.fieldLink "CompositeDecoder$Colors" 15 "CompositeDecoder$Colors" "rawVs" "[F" ∈ lw_all := lw_in 270 (by decide +kernel) (by decide +kernel)
theorem fl_X2_18 : Cond.fieldLink "CompositeDecoder$Colors" 18 "CompositeDecoder$Colors" "us" "[F" ∈ lw_all := lw_in 271 (by decide +kernel) (by decide +kernel)
theorem fl_X10_236 : Cond.fieldLinkNest "CompositeDecoder" 236 "CompositeDecoder$Colors" "us" "[F" "CompositeDecoder" ∈ lw_nest := lw_inN 272 (by decide +kernel) (by decide +kernel)
theorem fl_X2_21 : Cond.fieldLink "CompositeDecoder$Colors" 21 "CompositeDecoder$Colors" "vs" "[F" ∈ lw_all := lw_in 273 (by decide +kernel) (by decide +kernel)
theorem fl_X10_240 : Cond.fieldLinkNest "CompositeDecoder" 240 "CompositeDecoder$Colors" "vs" "[F" "CompositeDecoder" ∈ lw_nest := lw_inN 274 (by decide +kernel) (by decide +kernel)
theorem cl_X10_72 : Cond.classLink "CompositeDecoder" 72 "CompositeDecoder$Movement" ∈ lw_all := lw_in 284 (by decide +kernel) (by decide +kernel)
theorem it_X5 : Cond.instantiable "CompositeDecoder$Movement" 3 ∈ lw_all := lw_in 285 (by decide +kernel) (by decide +kernel)
theorem ml_X10_74 : Cond.methodLinkNest "CompositeDecoder" 74 yX5_init "CompositeDecoder" ∈ lw_nest := lw_inN 286 (by decide +kernel) (by decide +kernel)
theorem im_X5_init : Cond.instanceMethod yX5_init ∈ lw_all := lw_in 287 (by decide +kernel) (by decide +kernel)
theorem co_X5_init : Cond.code yX5_init cX5_init 1 none ∈ lw_all := lw_in 288 (by decide +kernel) (by decide +kernel)
theorem ml_X5_3 : Cond.methodLink "CompositeDecoder$Movement" 3 objectInit ∈ lw_all := lw_in 289 (by decide +kernel) (by decide +kernel)
theorem fl_X5_9 : Cond.fieldLink "CompositeDecoder$Movement" 9 "CompositeDecoder$Movement" "lumasBefore" "[I" ∈ lw_all := lw_in 290 (by decide +kernel) (by decide +kernel)
theorem fl_X5_15 : Cond.fieldLink "CompositeDecoder$Movement" 15 "CompositeDecoder$Movement" "changed" "[Z" ∈ lw_all := lw_in 291 (by decide +kernel) (by decide +kernel)
theorem fl_X5_19 : Cond.fieldLink "CompositeDecoder$Movement" 19 "CompositeDecoder$Movement" "kinds" "[I" ∈ lw_all := lw_in 292 (by decide +kernel) (by decide +kernel)
theorem fl_X10_248 : Cond.fieldLinkNest "CompositeDecoder" 248 "CompositeDecoder$Movement" "kinds" "[I" "CompositeDecoder" ∈ lw_nest := lw_inN 293 (by decide +kernel) (by decide +kernel)
theorem fl_X10_10 : Cond.fieldLink "CompositeDecoder" 10 "CompositeDecoder" "picture" "LCompositeDecoder$Picture;" ∈ lw_all := lw_in 301 (by decide +kernel) (by decide +kernel)
theorem fl_X10_19 : Cond.fieldLink "CompositeDecoder" 19 "CompositeDecoder" "text" "LCompositeDecoder$BarText;" ∈ lw_all := lw_in 302 (by decide +kernel) (by decide +kernel)
theorem fl_X10_26 : Cond.fieldLink "CompositeDecoder" 26 "CompositeDecoder" "settings" "LCompositeDecoder$Settings;" ∈ lw_all := lw_in 303 (by decide +kernel) (by decide +kernel)
theorem fl_X10_33 : Cond.fieldLink "CompositeDecoder" 33 "CompositeDecoder" "signal" "LCompositeDecoder$Signal;" ∈ lw_all := lw_in 304 (by decide +kernel) (by decide +kernel)
theorem fl_X10_40 : Cond.fieldLink "CompositeDecoder" 40 "CompositeDecoder" "finder" "LCompositeDecoder$LineFinder;" ∈ lw_all := lw_in 305 (by decide +kernel) (by decide +kernel)
theorem fl_X10_47 : Cond.fieldLink "CompositeDecoder" 47 "CompositeDecoder" "bursts" "LCompositeDecoder$Bursts;" ∈ lw_all := lw_in 306 (by decide +kernel) (by decide +kernel)
theorem fl_X10_54 : Cond.fieldLink "CompositeDecoder" 54 "CompositeDecoder" "phases" "LCompositeDecoder$PhaseReference;" ∈ lw_all := lw_in 307 (by decide +kernel) (by decide +kernel)
theorem fl_X10_61 : Cond.fieldLink "CompositeDecoder" 61 "CompositeDecoder" "combs" "LCompositeDecoder$Combs;" ∈ lw_all := lw_in 308 (by decide +kernel) (by decide +kernel)
theorem fl_X10_68 : Cond.fieldLink "CompositeDecoder" 68 "CompositeDecoder" "colors" "LCompositeDecoder$Colors;" ∈ lw_all := lw_in 309 (by decide +kernel) (by decide +kernel)
theorem fl_X10_75 : Cond.fieldLink "CompositeDecoder" 75 "CompositeDecoder" "movement" "LCompositeDecoder$Movement;" ∈ lw_all := lw_in 310 (by decide +kernel) (by decide +kernel)
theorem fl_X10_200 : Cond.fieldLink "CompositeDecoder" 200 "CompositeDecoder" "decodings" "I" ∈ lw_all := lw_in 311 (by decide +kernel) (by decide +kernel)
theorem ml_L_13 : Cond.methodLink "CompositeDecoderLaw" 13 yX10_setSegment ∈ lw_all := lw_in 335 (by decide +kernel) (by decide +kernel)
theorem im_X10_setSegment : Cond.instanceMethod yX10_setSegment ∈ lw_all := lw_in 336 (by decide +kernel) (by decide +kernel)
theorem se_X10_setSegment : Cond.selects "CompositeDecoder" yX10_setSegment yX10_setSegment ∈ lw_all := lw_in 337 (by decide +kernel) (by decide +kernel)
theorem co_X10_setSegment : Cond.code yX10_setSegment cX10_setSegment 8 (some .int) ∈ lw_all := lw_in 338 (by decide +kernel) (by decide +kernel)
theorem ml_X10_79 : Cond.methodLink "CompositeDecoder" 79 yX10_isPlace ∈ lw_all := lw_in 339 (by decide +kernel) (by decide +kernel)
theorem sm_X10_isPlace : Cond.static yX10_isPlace ∈ lw_all := lw_in 340 (by decide +kernel) (by decide +kernel)
theorem co_X10_isPlace : Cond.code yX10_isPlace cX10_isPlace 2 (some .boolean) ∈ lw_all := lw_in 341 (by decide +kernel) (by decide +kernel)
theorem ml_X10_101 : Cond.methodLink "CompositeDecoder" 101 yX10_isLine ∈ lw_all := lw_in 342 (by decide +kernel) (by decide +kernel)
theorem sm_X10_isLine : Cond.static yX10_isLine ∈ lw_all := lw_in 343 (by decide +kernel) (by decide +kernel)
theorem co_X10_isLine : Cond.code yX10_isLine cX10_isLine 1 (some .boolean) ∈ lw_all := lw_in 344 (by decide +kernel) (by decide +kernel)
theorem ml_X10_105 : Cond.methodLink "CompositeDecoder" 105 yX10_isWithin ∈ lw_all := lw_in 345 (by decide +kernel) (by decide +kernel)
theorem sm_X10_isWithin : Cond.static yX10_isWithin ∈ lw_all := lw_in 346 (by decide +kernel) (by decide +kernel)
theorem co_X10_isWithin : Cond.code yX10_isWithin cX10_isWithin 3 (some .boolean) ∈ lw_all := lw_in 347 (by decide +kernel) (by decide +kernel)
theorem kc_X10_83 : Cond.constant "CompositeDecoder" 83 (-100001) ∈ lw_all := lw_in 348 (by decide +kernel) (by decide +kernel)
theorem ml_X10_84 : Cond.methodLink "CompositeDecoder" 84 yX10_isPaint ∈ lw_all := lw_in 349 (by decide +kernel) (by decide +kernel)
theorem sm_X10_isPaint : Cond.static yX10_isPaint ∈ lw_all := lw_in 350 (by decide +kernel) (by decide +kernel)
theorem co_X10_isPaint : Cond.code yX10_isPaint cX10_isPaint 3 (some .boolean) ∈ lw_all := lw_in 351 (by decide +kernel) (by decide +kernel)
theorem kc_X10_88 : Cond.constant "CompositeDecoder" 88 (-100002) ∈ lw_all := lw_in 352 (by decide +kernel) (by decide +kernel)
theorem ml_X10_89 : Cond.methodLink "CompositeDecoder" 89 yX10_placeOf ∈ lw_all := lw_in 353 (by decide +kernel) (by decide +kernel)
theorem sm_X10_placeOf : Cond.static yX10_placeOf ∈ lw_all := lw_in 354 (by decide +kernel) (by decide +kernel)
theorem co_X10_placeOf : Cond.code yX10_placeOf cX10_placeOf 2 (some .int) ∈ lw_all := lw_in 355 (by decide +kernel) (by decide +kernel)
theorem ml_X10_97 : Cond.methodLink "CompositeDecoder" 97 yX7_paint ∈ lw_all := lw_in 356 (by decide +kernel) (by decide +kernel)
theorem im_X7_paint : Cond.instanceMethod yX7_paint ∈ lw_all := lw_in 357 (by decide +kernel) (by decide +kernel)
theorem se_X7_paint : Cond.selects "CompositeDecoder$Picture" yX7_paint yX7_paint ∈ lw_all := lw_in 358 (by decide +kernel) (by decide +kernel)
theorem co_X7_paint : Cond.code yX7_paint cX7_paint 6 (some .boolean) ∈ lw_all := lw_in 359 (by decide +kernel) (by decide +kernel)
theorem ml_L_18 : Cond.methodLink "CompositeDecoderLaw" 18 yX10_fill ∈ lw_all := lw_in 360 (by decide +kernel) (by decide +kernel)
theorem im_X10_fill : Cond.instanceMethod yX10_fill ∈ lw_all := lw_in 361 (by decide +kernel) (by decide +kernel)
theorem se_X10_fill : Cond.selects "CompositeDecoder" yX10_fill yX10_fill ∈ lw_all := lw_in 362 (by decide +kernel) (by decide +kernel)
theorem co_X10_fill : Cond.code yX10_fill cX10_fill 7 (some .int) ∈ lw_all := lw_in 363 (by decide +kernel) (by decide +kernel)
theorem ml_L_23 : Cond.methodLink "CompositeDecoderLaw" 23 yX10_setLine ∈ lw_all := lw_in 364 (by decide +kernel) (by decide +kernel)
theorem im_X10_setLine : Cond.instanceMethod yX10_setLine ∈ lw_all := lw_in 365 (by decide +kernel) (by decide +kernel)
theorem se_X10_setLine : Cond.selects "CompositeDecoder" yX10_setLine yX10_setLine ∈ lw_all := lw_in 366 (by decide +kernel) (by decide +kernel)
theorem co_X10_setLine : Cond.code yX10_setLine cX10_setLine 7 (some .int) ∈ lw_all := lw_in 367 (by decide +kernel) (by decide +kernel)
theorem ml_L_27 : Cond.methodLink "CompositeDecoderLaw" 27 yX10_miss ∈ lw_all := lw_in 368 (by decide +kernel) (by decide +kernel)
theorem im_X10_miss : Cond.instanceMethod yX10_miss ∈ lw_all := lw_in 369 (by decide +kernel) (by decide +kernel)
theorem se_X10_miss : Cond.selects "CompositeDecoder" yX10_miss yX10_miss ∈ lw_all := lw_in 370 (by decide +kernel) (by decide +kernel)
theorem co_X10_miss : Cond.code yX10_miss cX10_miss 4 (some .int) ∈ lw_all := lw_in 371 (by decide +kernel) (by decide +kernel)
theorem ml_X10_123 : Cond.methodLink "CompositeDecoder" 123 yX10_oneIf ∈ lw_all := lw_in 372 (by decide +kernel) (by decide +kernel)
theorem sm_X10_oneIf : Cond.static yX10_oneIf ∈ lw_all := lw_in 373 (by decide +kernel) (by decide +kernel)
theorem co_X10_oneIf : Cond.code yX10_oneIf cX10_oneIf 1 (some .int) ∈ lw_all := lw_in 374 (by decide +kernel) (by decide +kernel)
theorem ml_L_32 : Cond.methodLink "CompositeDecoderLaw" 32 yX10_setStandard ∈ lw_all := lw_in 375 (by decide +kernel) (by decide +kernel)
theorem im_X10_setStandard : Cond.instanceMethod yX10_setStandard ∈ lw_all := lw_in 376 (by decide +kernel) (by decide +kernel)
theorem se_X10_setStandard : Cond.selects "CompositeDecoder" yX10_setStandard yX10_setStandard ∈ lw_all := lw_in 377 (by decide +kernel) (by decide +kernel)
theorem co_X10_setStandard : Cond.code yX10_setStandard cX10_setStandard 3 (some .int) ∈ lw_all := lw_in 378 (by decide +kernel) (by decide +kernel)
theorem ml_L_37 : Cond.methodLink "CompositeDecoderLaw" 37 yX10_type ∈ lw_all := lw_in 379 (by decide +kernel) (by decide +kernel)
theorem im_X10_type : Cond.instanceMethod yX10_type ∈ lw_all := lw_in 380 (by decide +kernel) (by decide +kernel)
theorem se_X10_type : Cond.selects "CompositeDecoder" yX10_type yX10_type ∈ lw_all := lw_in 381 (by decide +kernel) (by decide +kernel)
theorem co_X10_type : Cond.code yX10_type cX10_type 2 (some .int) ∈ lw_all := lw_in 382 (by decide +kernel) (by decide +kernel)
theorem ml_X10_131 : Cond.methodLink "CompositeDecoder" 131 yX0_append ∈ lw_all := lw_in 383 (by decide +kernel) (by decide +kernel)
theorem im_X0_append : Cond.instanceMethod yX0_append ∈ lw_all := lw_in 384 (by decide +kernel) (by decide +kernel)
theorem se_X0_append : Cond.selects "CompositeDecoder$BarText" yX0_append yX0_append ∈ lw_all := lw_in 385 (by decide +kernel) (by decide +kernel)
theorem co_X0_append : Cond.code yX0_append cX0_append 2 (some .boolean) ∈ lw_all := lw_in 386 (by decide +kernel) (by decide +kernel)
theorem kc_X10_138 : Cond.constant "CompositeDecoder" 138 (-100003) ∈ lw_all := lw_in 387 (by decide +kernel) (by decide +kernel)
theorem ml_L_42 : Cond.methodLink "CompositeDecoderLaw" 42 yX10_clearText ∈ lw_all := lw_in 388 (by decide +kernel) (by decide +kernel)
theorem im_X10_clearText : Cond.instanceMethod yX10_clearText ∈ lw_all := lw_in 389 (by decide +kernel) (by decide +kernel)
theorem se_X10_clearText : Cond.selects "CompositeDecoder" yX10_clearText yX10_clearText ∈ lw_all := lw_in 390 (by decide +kernel) (by decide +kernel)
theorem co_X10_clearText : Cond.code yX10_clearText cX10_clearText 2 (some .int) ∈ lw_all := lw_in 391 (by decide +kernel) (by decide +kernel)
theorem ml_L_47 : Cond.methodLink "CompositeDecoderLaw" 47 yX10_readBars ∈ lw_all := lw_in 392 (by decide +kernel) (by decide +kernel)
theorem im_X10_readBars : Cond.instanceMethod yX10_readBars ∈ lw_all := lw_in 393 (by decide +kernel) (by decide +kernel)
theorem se_X10_readBars : Cond.selects "CompositeDecoder" yX10_readBars yX10_readBars ∈ lw_all := lw_in 394 (by decide +kernel) (by decide +kernel)
theorem co_X10_readBars : Cond.code yX10_readBars cX10_readBars 4 (some .int) ∈ lw_all := lw_in 395 (by decide +kernel) (by decide +kernel)
theorem ml_X10_139 : Cond.methodLink "CompositeDecoder" 139 yX0_parse ∈ lw_all := lw_in 396 (by decide +kernel) (by decide +kernel)
theorem im_X0_parse : Cond.instanceMethod yX0_parse ∈ lw_all := lw_in 397 (by decide +kernel) (by decide +kernel)
theorem se_X0_parse : Cond.selects "CompositeDecoder$BarText" yX0_parse yX0_parse ∈ lw_all := lw_in 398 (by decide +kernel) (by decide +kernel)
theorem co_X0_parse : Cond.code yX0_parse cX0_parse 6 (some .int) ∈ lw_all := lw_in 399 (by decide +kernel) (by decide +kernel)
theorem ml_X0_26 : Cond.methodLink "CompositeDecoder$BarText" 26 yX0_barOf ∈ lw_all := lw_in 400 (by decide +kernel) (by decide +kernel)
theorem sm_X0_barOf : Cond.static yX0_barOf ∈ lw_all := lw_in 401 (by decide +kernel) (by decide +kernel)
theorem co_X0_barOf : Cond.code yX0_barOf cX0_barOf 2 (some .int) ∈ lw_all := lw_in 402 (by decide +kernel) (by decide +kernel)
theorem fl_X0_52 : Cond.fieldLink "CompositeDecoder$BarText" 52 "CompositeDecoder$BarText" "LETTERS" "[C" ∈ lw_all := lw_in 403 (by decide +kernel) (by decide +kernel)
theorem ml_X0_30 : Cond.methodLink "CompositeDecoder$BarText" 30 yX0_digitOf ∈ lw_all := lw_in 405 (by decide +kernel) (by decide +kernel)
theorem sm_X0_digitOf : Cond.static yX0_digitOf ∈ lw_all := lw_in 406 (by decide +kernel) (by decide +kernel)
theorem co_X0_digitOf : Cond.code yX0_digitOf cX0_digitOf 1 (some .int) ∈ lw_all := lw_in 407 (by decide +kernel) (by decide +kernel)
theorem ml_X0_33 : Cond.methodLink "CompositeDecoder$BarText" 33 yX0_repeatBar ∈ lw_all := lw_in 408 (by decide +kernel) (by decide +kernel)
theorem im_X0_repeatBar : Cond.instanceMethod yX0_repeatBar ∈ lw_all := lw_in 410 (by decide +kernel) (by decide +kernel)
theorem co_X0_repeatBar : Cond.code yX0_repeatBar cX0_repeatBar 5 (some .int) ∈ lw_all := lw_in 411 (by decide +kernel) (by decide +kernel)
theorem ml_X10_143 : Cond.methodLink "CompositeDecoder" 143 yX0_paintBar ∈ lw_all := lw_in 412 (by decide +kernel) (by decide +kernel)
theorem im_X0_paintBar : Cond.instanceMethod yX0_paintBar ∈ lw_all := lw_in 413 (by decide +kernel) (by decide +kernel)
theorem se_X0_paintBar : Cond.selects "CompositeDecoder$BarText" yX0_paintBar yX0_paintBar ∈ lw_all := lw_in 414 (by decide +kernel) (by decide +kernel)
theorem co_X0_paintBar : Cond.code yX0_paintBar cX0_paintBar 5 none ∈ lw_all := lw_in 415 (by decide +kernel) (by decide +kernel)
theorem fl_X0_37 : Cond.fieldLink "CompositeDecoder$BarText" 37 "CompositeDecoder$BarText" "BAR_LUMAS" "[I" ∈ lw_all := lw_in 416 (by decide +kernel) (by decide +kernel)
theorem fl_X0_40 : Cond.fieldLink "CompositeDecoder$BarText" 40 "CompositeDecoder$BarText" "BAR_US" "[I" ∈ lw_all := lw_in 418 (by decide +kernel) (by decide +kernel)
theorem fl_X0_43 : Cond.fieldLink "CompositeDecoder$BarText" 43 "CompositeDecoder$BarText" "BAR_VS" "[I" ∈ lw_all := lw_in 420 (by decide +kernel) (by decide +kernel)
theorem ml_X0_46 : Cond.methodLink "CompositeDecoder$BarText" 46 yX7_paint ∈ lw_all := lw_in 422 (by decide +kernel) (by decide +kernel)
theorem ml_L_51 : Cond.methodLink "CompositeDecoderLaw" 51 yX10_sample ∈ lw_all := lw_in 423 (by decide +kernel) (by decide +kernel)
theorem im_X10_sample : Cond.instanceMethod yX10_sample ∈ lw_all := lw_in 424 (by decide +kernel) (by decide +kernel)
theorem se_X10_sample : Cond.selects "CompositeDecoder" yX10_sample yX10_sample ∈ lw_all := lw_in 425 (by decide +kernel) (by decide +kernel)
theorem co_X10_sample : Cond.code yX10_sample cX10_sample 3 (some .int) ∈ lw_all := lw_in 426 (by decide +kernel) (by decide +kernel)
theorem ml_X10_150 : Cond.methodLink "CompositeDecoder" 150 yX7_sampleAt ∈ lw_all := lw_in 427 (by decide +kernel) (by decide +kernel)
theorem im_X7_sampleAt : Cond.instanceMethod yX7_sampleAt ∈ lw_all := lw_in 428 (by decide +kernel) (by decide +kernel)
theorem se_X7_sampleAt : Cond.selects "CompositeDecoder$Picture" yX7_sampleAt yX7_sampleAt ∈ lw_all := lw_in 429 (by decide +kernel) (by decide +kernel)
theorem co_X7_sampleAt : Cond.code yX7_sampleAt cX7_sampleAt 5 (some .int) ∈ lw_all := lw_in 430 (by decide +kernel) (by decide +kernel)
theorem ml_X7_37 : Cond.methodLinkNest "CompositeDecoder$Picture" 37 yX10_turnAt "CompositeDecoder" ∈ lw_nest := lw_inN 431 (by decide +kernel) (by decide +kernel)
theorem sm_X10_turnAt : Cond.static yX10_turnAt ∈ lw_all := lw_in 432 (by decide +kernel) (by decide +kernel)
theorem co_X10_turnAt : Cond.code yX10_turnAt cX10_turnAt 2 (some .int) ∈ lw_all := lw_in 433 (by decide +kernel) (by decide +kernel)
theorem ml_X7_41 : Cond.methodLink "CompositeDecoder$Picture" 41 yX7_noiseAt ∈ lw_all := lw_in 434 (by decide +kernel) (by decide +kernel)
theorem im_X7_noiseAt : Cond.instanceMethod yX7_noiseAt ∈ lw_all := lw_in 436 (by decide +kernel) (by decide +kernel)
theorem co_X7_noiseAt : Cond.code yX7_noiseAt cX7_noiseAt 3 (some .int) ∈ lw_all := lw_in 437 (by decide +kernel) (by decide +kernel)
theorem ml_X7_48 : Cond.methodLink "CompositeDecoder$Picture" 48 yJ9_floorMod_7cf53 ∈ lw_all := lw_in 438 (by decide +kernel) (by decide +kernel)
theorem sm_J9_floorMod_7cf53 : Cond.static yJ9_floorMod_7cf53 ∈ lw_all := lw_in 439 (by decide +kernel) (by decide +kernel)
theorem co_J9_floorMod_7cf53 : Cond.code yJ9_floorMod_7cf53 cJ9_floorMod_7cf53 3 (some .int) ∈ lw_all := lw_in 440 (by decide +kernel) (by decide +kernel)
theorem ml_X7_44 : Cond.methodLink "CompositeDecoder$Picture" 44 yX7_levelAt ∈ lw_all := lw_in 441 (by decide +kernel) (by decide +kernel)
theorem im_X7_levelAt : Cond.instanceMethod yX7_levelAt ∈ lw_all := lw_in 443 (by decide +kernel) (by decide +kernel)
theorem co_X7_levelAt : Cond.code yX7_levelAt cX7_levelAt 6 (some .int) ∈ lw_all := lw_in 444 (by decide +kernel) (by decide +kernel)
theorem ml_X7_53 : Cond.methodLink "CompositeDecoder$Picture" 53 yX7_burstAt ∈ lw_all := lw_in 445 (by decide +kernel) (by decide +kernel)
theorem im_X7_burstAt : Cond.instanceMethod yX7_burstAt ∈ lw_all := lw_in 447 (by decide +kernel) (by decide +kernel)
theorem co_X7_burstAt : Cond.code yX7_burstAt cX7_burstAt 4 (some .int) ∈ lw_all := lw_in 448 (by decide +kernel) (by decide +kernel)
theorem fl_X7_59 : Cond.fieldLinkNest "CompositeDecoder$Picture" 59 "CompositeDecoder" "SINE" "[I" "CompositeDecoder" ∈ lw_nest := lw_inN 449 (by decide +kernel) (by decide +kernel)
theorem ml_X7_62 : Cond.methodLink "CompositeDecoder$Picture" 62 yX7_signOf ∈ lw_all := lw_in 451 (by decide +kernel) (by decide +kernel)
theorem im_X7_signOf : Cond.instanceMethod yX7_signOf ∈ lw_all := lw_in 453 (by decide +kernel) (by decide +kernel)
theorem co_X7_signOf : Cond.code yX7_signOf cX7_signOf 2 (some .int) ∈ lw_all := lw_in 454 (by decide +kernel) (by decide +kernel)
theorem fl_X7_66 : Cond.fieldLinkNest "CompositeDecoder$Picture" 66 "CompositeDecoder" "COSINE" "[I" "CompositeDecoder" ∈ lw_nest := lw_inN 455 (by decide +kernel) (by decide +kernel)
theorem ml_X7_56 : Cond.methodLinkNest "CompositeDecoder$Picture" 56 yX10_placeOf "CompositeDecoder" ∈ lw_nest := lw_inN 457 (by decide +kernel) (by decide +kernel)
theorem ml_L_56 : Cond.methodLink "CompositeDecoderLaw" 56 yX10_set ∈ lw_all := lw_in 458 (by decide +kernel) (by decide +kernel)
theorem im_X10_set : Cond.instanceMethod yX10_set ∈ lw_all := lw_in 459 (by decide +kernel) (by decide +kernel)
theorem se_X10_set : Cond.selects "CompositeDecoder" yX10_set yX10_set ∈ lw_all := lw_in 460 (by decide +kernel) (by decide +kernel)
theorem co_X10_set : Cond.code yX10_set cX10_set 4 (some .int) ∈ lw_all := lw_in 461 (by decide +kernel) (by decide +kernel)
theorem ml_X10_153 : Cond.methodLink "CompositeDecoder" 153 yX8_allows ∈ lw_all := lw_in 462 (by decide +kernel) (by decide +kernel)
theorem im_X8_allows : Cond.instanceMethod yX8_allows ∈ lw_all := lw_in 463 (by decide +kernel) (by decide +kernel)
theorem se_X8_allows : Cond.selects "CompositeDecoder$Settings" yX8_allows yX8_allows ∈ lw_all := lw_in 464 (by decide +kernel) (by decide +kernel)
theorem co_X8_allows : Cond.code yX8_allows cX8_allows 3 (some .boolean) ∈ lw_all := lw_in 465 (by decide +kernel) (by decide +kernel)
theorem fl_X8_13 : Cond.fieldLink "CompositeDecoder$Settings" 13 "CompositeDecoder$Settings" "LOWEST" "[I" ∈ lw_all := lw_in 466 (by decide +kernel) (by decide +kernel)
theorem fl_X8_16 : Cond.fieldLink "CompositeDecoder$Settings" 16 "CompositeDecoder$Settings" "HIGHEST" "[I" ∈ lw_all := lw_in 468 (by decide +kernel) (by decide +kernel)
theorem ml_X8_19 : Cond.methodLinkNest "CompositeDecoder$Settings" 19 yX10_isWithin "CompositeDecoder" ∈ lw_nest := lw_inN 470 (by decide +kernel) (by decide +kernel)
theorem ml_L_60 : Cond.methodLink "CompositeDecoderLaw" 60 yX10_decode ∈ lw_all := lw_in 471 (by decide +kernel) (by decide +kernel)
theorem im_X10_decode : Cond.instanceMethod yX10_decode ∈ lw_all := lw_in 472 (by decide +kernel) (by decide +kernel)
theorem se_X10_decode : Cond.selects "CompositeDecoder" yX10_decode yX10_decode ∈ lw_all := lw_in 473 (by decide +kernel) (by decide +kernel)
theorem co_X10_decode : Cond.code yX10_decode cX10_decode 2 (some .int) ∈ lw_all := lw_in 474 (by decide +kernel) (by decide +kernel)
theorem ml_X10_159 : Cond.methodLink "CompositeDecoder" 159 yX9_sendFrom ∈ lw_all := lw_in 475 (by decide +kernel) (by decide +kernel)
theorem im_X9_sendFrom : Cond.instanceMethod yX9_sendFrom ∈ lw_all := lw_in 476 (by decide +kernel) (by decide +kernel)
theorem se_X9_sendFrom : Cond.selects "CompositeDecoder$Signal" yX9_sendFrom yX9_sendFrom ∈ lw_all := lw_in 477 (by decide +kernel) (by decide +kernel)
theorem co_X9_sendFrom : Cond.code yX9_sendFrom cX9_sendFrom 5 none ∈ lw_all := lw_in 478 (by decide +kernel) (by decide +kernel)
theorem ml_X9_16 : Cond.methodLink "CompositeDecoder$Signal" 16 yX7_sampleAt ∈ lw_all := lw_in 479 (by decide +kernel) (by decide +kernel)
theorem ml_X10_163 : Cond.methodLink "CompositeDecoder" 163 yX4_find ∈ lw_all := lw_in 480 (by decide +kernel) (by decide +kernel)
theorem im_X4_find : Cond.instanceMethod yX4_find ∈ lw_all := lw_in 481 (by decide +kernel) (by decide +kernel)
theorem se_X4_find : Cond.selects "CompositeDecoder$LineFinder" yX4_find yX4_find ∈ lw_all := lw_in 482 (by decide +kernel) (by decide +kernel)
theorem co_X4_find : Cond.code yX4_find cX4_find 4 none ∈ lw_all := lw_in 483 (by decide +kernel) (by decide +kernel)
theorem ml_X4_39 : Cond.methodLink "CompositeDecoder$LineFinder" 39 yX9_pulseOf ∈ lw_all := lw_in 484 (by decide +kernel) (by decide +kernel)
theorem im_X9_pulseOf : Cond.instanceMethod yX9_pulseOf ∈ lw_all := lw_in 485 (by decide +kernel) (by decide +kernel)
theorem se_X9_pulseOf : Cond.selects "CompositeDecoder$Signal" yX9_pulseOf yX9_pulseOf ∈ lw_all := lw_in 486 (by decide +kernel) (by decide +kernel)
theorem co_X9_pulseOf : Cond.code yX9_pulseOf cX9_pulseOf 4 (some .int) ∈ lw_all := lw_in 487 (by decide +kernel) (by decide +kernel)
theorem ml_X9_22 : Cond.methodLink "CompositeDecoder$Signal" 22 yX9_at ∈ lw_all := lw_in 488 (by decide +kernel) (by decide +kernel)
theorem im_X9_at : Cond.instanceMethod yX9_at ∈ lw_all := lw_in 489 (by decide +kernel) (by decide +kernel)
theorem se_X9_at : Cond.selects "CompositeDecoder$Signal" yX9_at yX9_at ∈ lw_all := lw_in 490 (by decide +kernel) (by decide +kernel)
theorem co_X9_at : Cond.code yX9_at cX9_at 3 (some .int) ∈ lw_all := lw_in 491 (by decide +kernel) (by decide +kernel)
theorem ml_X4_45 : Cond.methodLink "CompositeDecoder$LineFinder" 45 yX4_steer ∈ lw_all := lw_in 492 (by decide +kernel) (by decide +kernel)
theorem im_X4_steer : Cond.instanceMethod yX4_steer ∈ lw_all := lw_in 494 (by decide +kernel) (by decide +kernel)
theorem co_X4_steer : Cond.code yX4_steer cX4_steer 3 none ∈ lw_all := lw_in 495 (by decide +kernel) (by decide +kernel)
theorem ml_X4_55 : Cond.methodLinkNest "CompositeDecoder$LineFinder" 55 yX10_isWithin "CompositeDecoder" ∈ lw_nest := lw_inN 496 (by decide +kernel) (by decide +kernel)
theorem ml_X4_49 : Cond.methodLink "CompositeDecoder$LineFinder" 49 yJ9_floorDiv_7cf53 ∈ lw_all := lw_in 497 (by decide +kernel) (by decide +kernel)
theorem sm_J9_floorDiv_7cf53 : Cond.static yJ9_floorDiv_7cf53 ∈ lw_all := lw_in 498 (by decide +kernel) (by decide +kernel)
theorem co_J9_floorDiv_7cf53 : Cond.code yJ9_floorDiv_7cf53 cJ9_floorDiv_7cf53 3 (some .int) ∈ lw_all := lw_in 499 (by decide +kernel) (by decide +kernel)
theorem ml_X10_170 : Cond.methodLink "CompositeDecoder" 170 yX8_threshold ∈ lw_all := lw_in 500 (by decide +kernel) (by decide +kernel)
theorem im_X8_threshold : Cond.instanceMethod yX8_threshold ∈ lw_all := lw_in 501 (by decide +kernel) (by decide +kernel)
theorem se_X8_threshold : Cond.selects "CompositeDecoder$Settings" yX8_threshold yX8_threshold ∈ lw_all := lw_in 502 (by decide +kernel) (by decide +kernel)
theorem co_X8_threshold : Cond.code yX8_threshold cX8_threshold 1 (some .int) ∈ lw_all := lw_in 503 (by decide +kernel) (by decide +kernel)
theorem ml_X10_173 : Cond.methodLink "CompositeDecoder" 173 yX1_measure ∈ lw_all := lw_in 504 (by decide +kernel) (by decide +kernel)
theorem im_X1_measure : Cond.instanceMethod yX1_measure ∈ lw_all := lw_in 505 (by decide +kernel) (by decide +kernel)
theorem se_X1_measure : Cond.selects "CompositeDecoder$Bursts" yX1_measure yX1_measure ∈ lw_all := lw_in 506 (by decide +kernel) (by decide +kernel)
theorem co_X1_measure : Cond.code yX1_measure cX1_measure 6 none ∈ lw_all := lw_in 507 (by decide +kernel) (by decide +kernel)
theorem ml_X1_32 : Cond.methodLink "CompositeDecoder$Bursts" 32 yX1_sumUp ∈ lw_all := lw_in 508 (by decide +kernel) (by decide +kernel)
theorem im_X1_sumUp : Cond.instanceMethod yX1_sumUp ∈ lw_all := lw_in 510 (by decide +kernel) (by decide +kernel)
theorem co_X1_sumUp : Cond.code yX1_sumUp cX1_sumUp 9 none ∈ lw_all := lw_in 511 (by decide +kernel) (by decide +kernel)
theorem ml_X1_46 : Cond.methodLink "CompositeDecoder$Bursts" 46 yX9_at ∈ lw_all := lw_in 512 (by decide +kernel) (by decide +kernel)
theorem ml_X1_52 : Cond.methodLinkNest "CompositeDecoder$Bursts" 52 yX10_turnAt "CompositeDecoder" ∈ lw_nest := lw_inN 513 (by decide +kernel) (by decide +kernel)
theorem fl_X1_55 : Cond.fieldLinkNest "CompositeDecoder$Bursts" 55 "CompositeDecoder" "SINE" "[I" "CompositeDecoder" ∈ lw_nest := lw_inN 514 (by decide +kernel) (by decide +kernel)
theorem fl_X1_58 : Cond.fieldLinkNest "CompositeDecoder$Bursts" 58 "CompositeDecoder" "COSINE" "[I" "CompositeDecoder" ∈ lw_nest := lw_inN 515 (by decide +kernel) (by decide +kernel)
theorem ml_X1_36 : Cond.methodLink "CompositeDecoder$Bursts" 36 yJ9_abs_0f7a4 ∈ lw_all := lw_in 516 (by decide +kernel) (by decide +kernel)
theorem sm_J9_abs_0f7a4 : Cond.static yJ9_abs_0f7a4 ∈ lw_all := lw_in 517 (by decide +kernel) (by decide +kernel)
theorem co_J9_abs_0f7a4 : Cond.code yJ9_abs_0f7a4 cJ9_abs_0f7a4 1 (some .int) ∈ lw_all := lw_in 518 (by decide +kernel) (by decide +kernel)
theorem ml_X1_42 : Cond.methodLink "CompositeDecoder$Bursts" 42 yX1_countPair ∈ lw_all := lw_in 519 (by decide +kernel) (by decide +kernel)
theorem im_X1_countPair : Cond.instanceMethod yX1_countPair ∈ lw_all := lw_in 521 (by decide +kernel) (by decide +kernel)
theorem co_X1_countPair : Cond.code yX1_countPair cX1_countPair 5 none ∈ lw_all := lw_in 522 (by decide +kernel) (by decide +kernel)
theorem ml_X10_177 : Cond.methodLink "CompositeDecoder" 177 yX1_guessedStandard ∈ lw_all := lw_in 523 (by decide +kernel) (by decide +kernel)
theorem im_X1_guessedStandard : Cond.instanceMethod yX1_guessedStandard ∈ lw_all := lw_in 524 (by decide +kernel) (by decide +kernel)
theorem se_X1_guessedStandard : Cond.selects "CompositeDecoder$Bursts" yX1_guessedStandard yX1_guessedStandard ∈ lw_all := lw_in 525 (by decide +kernel) (by decide +kernel)
theorem co_X1_guessedStandard : Cond.code yX1_guessedStandard cX1_guessedStandard 1 (some .int) ∈ lw_all := lw_in 526 (by decide +kernel) (by decide +kernel)
theorem ml_X1_61 : Cond.methodLinkNest "CompositeDecoder$Bursts" 61 yX10_oneIf "CompositeDecoder" ∈ lw_nest := lw_inN 527 (by decide +kernel) (by decide +kernel)
theorem ml_X10_180 : Cond.methodLink "CompositeDecoder" 180 yX8_standardTaken ∈ lw_all := lw_in 528 (by decide +kernel) (by decide +kernel)
theorem im_X8_standardTaken : Cond.instanceMethod yX8_standardTaken ∈ lw_all := lw_in 529 (by decide +kernel) (by decide +kernel)
theorem se_X8_standardTaken : Cond.selects "CompositeDecoder$Settings" yX8_standardTaken yX8_standardTaken ∈ lw_all := lw_in 530 (by decide +kernel) (by decide +kernel)
theorem co_X8_standardTaken : Cond.code yX8_standardTaken cX8_standardTaken 2 (some .int) ∈ lw_all := lw_in 531 (by decide +kernel) (by decide +kernel)
theorem ml_X10_184 : Cond.methodLink "CompositeDecoder" 184 yX6_follow ∈ lw_all := lw_in 532 (by decide +kernel) (by decide +kernel)
theorem im_X6_follow : Cond.instanceMethod yX6_follow ∈ lw_all := lw_in 533 (by decide +kernel) (by decide +kernel)
theorem se_X6_follow : Cond.selects "CompositeDecoder$PhaseReference" yX6_follow yX6_follow ∈ lw_all := lw_in 534 (by decide +kernel) (by decide +kernel)
theorem co_X6_follow : Cond.code yX6_follow cX6_follow 9 none ∈ lw_all := lw_in 535 (by decide +kernel) (by decide +kernel)
theorem ml_X6_27 : Cond.methodLink "CompositeDecoder$PhaseReference" 27 yX6_aimOf ∈ lw_all := lw_in 536 (by decide +kernel) (by decide +kernel)
theorem sm_X6_aimOf : Cond.static yX6_aimOf ∈ lw_all := lw_in 537 (by decide +kernel) (by decide +kernel)
theorem co_X6_aimOf : Cond.code yX6_aimOf cX6_aimOf 3 (some .float) ∈ lw_all := lw_in 538 (by decide +kernel) (by decide +kernel)
theorem kf_X6_33 : Cond.constantFloat "CompositeDecoder$PhaseReference" 33 (1048576000) ∈ lw_all := lw_in 539 (by decide +kernel) (by decide +kernel)
theorem ml_X10_188 : Cond.methodLink "CompositeDecoder" 188 yX3_separate ∈ lw_all := lw_in 540 (by decide +kernel) (by decide +kernel)
theorem im_X3_separate : Cond.instanceMethod yX3_separate ∈ lw_all := lw_in 541 (by decide +kernel) (by decide +kernel)
theorem se_X3_separate : Cond.selects "CompositeDecoder$Combs" yX3_separate yX3_separate ∈ lw_all := lw_in 542 (by decide +kernel) (by decide +kernel)
theorem co_X3_separate : Cond.code yX3_separate cX3_separate 10 none ∈ lw_all := lw_in 543 (by decide +kernel) (by decide +kernel)
theorem ml_X3_27 : Cond.methodLink "CompositeDecoder$Combs" 27 yX8_comb ∈ lw_all := lw_in 544 (by decide +kernel) (by decide +kernel)
theorem im_X8_comb : Cond.instanceMethod yX8_comb ∈ lw_all := lw_in 545 (by decide +kernel) (by decide +kernel)
theorem se_X8_comb : Cond.selects "CompositeDecoder$Settings" yX8_comb yX8_comb ∈ lw_all := lw_in 546 (by decide +kernel) (by decide +kernel)
theorem co_X8_comb : Cond.code yX8_comb cX8_comb 1 (some .int) ∈ lw_all := lw_in 547 (by decide +kernel) (by decide +kernel)
theorem ml_X3_33 : Cond.methodLink "CompositeDecoder$Combs" 33 yX8_limit ∈ lw_all := lw_in 548 (by decide +kernel) (by decide +kernel)
theorem im_X8_limit : Cond.instanceMethod yX8_limit ∈ lw_all := lw_in 549 (by decide +kernel) (by decide +kernel)
theorem se_X8_limit : Cond.selects "CompositeDecoder$Settings" yX8_limit yX8_limit ∈ lw_all := lw_in 550 (by decide +kernel) (by decide +kernel)
theorem co_X8_limit : Cond.code yX8_limit cX8_limit 1 (some .int) ∈ lw_all := lw_in 551 (by decide +kernel) (by decide +kernel)
theorem ml_X3_36 : Cond.methodLink "CompositeDecoder$Combs" 36 yX3_sumUp ∈ lw_all := lw_in 552 (by decide +kernel) (by decide +kernel)
theorem im_X3_sumUp : Cond.instanceMethod yX3_sumUp ∈ lw_all := lw_in 554 (by decide +kernel) (by decide +kernel)
theorem co_X3_sumUp : Cond.code yX3_sumUp cX3_sumUp 6 none ∈ lw_all := lw_in 555 (by decide +kernel) (by decide +kernel)
theorem ml_X3_40 : Cond.methodLinkNest "CompositeDecoder$Combs" 40 yX10_placeOf "CompositeDecoder" ∈ lw_nest := lw_inN 556 (by decide +kernel) (by decide +kernel)
theorem ml_X3_52 : Cond.methodLink "CompositeDecoder$Combs" 52 yX9_sumFrom ∈ lw_all := lw_in 557 (by decide +kernel) (by decide +kernel)
theorem im_X9_sumFrom : Cond.instanceMethod yX9_sumFrom ∈ lw_all := lw_in 558 (by decide +kernel) (by decide +kernel)
theorem se_X9_sumFrom : Cond.selects "CompositeDecoder$Signal" yX9_sumFrom yX9_sumFrom ∈ lw_all := lw_in 559 (by decide +kernel) (by decide +kernel)
theorem co_X9_sumFrom : Cond.code yX9_sumFrom cX9_sumFrom 5 (some .int) ∈ lw_all := lw_in 560 (by decide +kernel) (by decide +kernel)
theorem ml_X3_44 : Cond.methodLink "CompositeDecoder$Combs" 44 yX3_wayFor ∈ lw_all := lw_in 561 (by decide +kernel) (by decide +kernel)
theorem im_X3_wayFor : Cond.instanceMethod yX3_wayFor ∈ lw_all := lw_in 563 (by decide +kernel) (by decide +kernel)
theorem co_X3_wayFor : Cond.code yX3_wayFor cX3_wayFor 7 (some .int) ∈ lw_all := lw_in 564 (by decide +kernel) (by decide +kernel)
theorem ml_X3_57 : Cond.methodLink "CompositeDecoder$Combs" 57 yX3_isNear ∈ lw_all := lw_in 565 (by decide +kernel) (by decide +kernel)
theorem im_X3_isNear : Cond.instanceMethod yX3_isNear ∈ lw_all := lw_in 567 (by decide +kernel) (by decide +kernel)
theorem co_X3_isNear : Cond.code yX3_isNear cX3_isNear 4 (some .boolean) ∈ lw_all := lw_in 568 (by decide +kernel) (by decide +kernel)
theorem ml_X3_61 : Cond.methodLinkNest "CompositeDecoder$Combs" 61 yX10_isWithin "CompositeDecoder" ∈ lw_nest := lw_inN 569 (by decide +kernel) (by decide +kernel)
theorem ml_X3_64 : Cond.methodLink "CompositeDecoder$Combs" 64 yJ9_abs_0f7a4 ∈ lw_all := lw_in 570 (by decide +kernel) (by decide +kernel)
theorem ml_X3_48 : Cond.methodLink "CompositeDecoder$Combs" 48 yX3_splitSegment ∈ lw_all := lw_in 571 (by decide +kernel) (by decide +kernel)
theorem im_X3_splitSegment : Cond.instanceMethod yX3_splitSegment ∈ lw_all := lw_in 573 (by decide +kernel) (by decide +kernel)
theorem co_X3_splitSegment : Cond.code yX3_splitSegment cX3_splitSegment 13 none ∈ lw_all := lw_in 574 (by decide +kernel) (by decide +kernel)
theorem ml_X3_70 : Cond.methodLink "CompositeDecoder$Combs" 70 yX3_chromaAt ∈ lw_all := lw_in 575 (by decide +kernel) (by decide +kernel)
theorem sm_X3_chromaAt : Cond.static yX3_chromaAt ∈ lw_all := lw_in 576 (by decide +kernel) (by decide +kernel)
theorem co_X3_chromaAt : Cond.code yX3_chromaAt cX3_chromaAt 6 (some .int) ∈ lw_all := lw_in 577 (by decide +kernel) (by decide +kernel)
theorem ml_X3_86 : Cond.methodLink "CompositeDecoder$Combs" 86 yX3_sampleAt ∈ lw_all := lw_in 578 (by decide +kernel) (by decide +kernel)
theorem sm_X3_sampleAt : Cond.static yX3_sampleAt ∈ lw_all := lw_in 579 (by decide +kernel) (by decide +kernel)
theorem co_X3_sampleAt : Cond.code yX3_sampleAt cX3_sampleAt 4 (some .int) ∈ lw_all := lw_in 580 (by decide +kernel) (by decide +kernel)
theorem ml_X3_90 : Cond.methodLinkNest "CompositeDecoder$Combs" 90 yX10_isLine "CompositeDecoder" ∈ lw_nest := lw_inN 581 (by decide +kernel) (by decide +kernel)
theorem ml_X3_94 : Cond.methodLink "CompositeDecoder$Combs" 94 yX9_at ∈ lw_all := lw_in 582 (by decide +kernel) (by decide +kernel)
theorem ml_X3_74 : Cond.methodLinkNest "CompositeDecoder$Combs" 74 yX10_turnAt "CompositeDecoder" ∈ lw_nest := lw_inN 583 (by decide +kernel) (by decide +kernel)
theorem fl_X3_77 : Cond.fieldLinkNest "CompositeDecoder$Combs" 77 "CompositeDecoder" "SINE" "[I" "CompositeDecoder" ∈ lw_nest := lw_inN 584 (by decide +kernel) (by decide +kernel)
theorem fl_X3_80 : Cond.fieldLinkNest "CompositeDecoder$Combs" 80 "CompositeDecoder" "COSINE" "[I" "CompositeDecoder" ∈ lw_nest := lw_inN 585 (by decide +kernel) (by decide +kernel)
theorem ml_X3_83 : Cond.methodLink "CompositeDecoder$Combs" 83 yJ9_floorDiv_7cf53 ∈ lw_all := lw_in 586 (by decide +kernel) (by decide +kernel)
theorem ml_X10_192 : Cond.methodLink "CompositeDecoder" 192 yX2_turn ∈ lw_all := lw_in 587 (by decide +kernel) (by decide +kernel)
theorem im_X2_turn : Cond.instanceMethod yX2_turn ∈ lw_all := lw_in 588 (by decide +kernel) (by decide +kernel)
theorem se_X2_turn : Cond.selects "CompositeDecoder$Colors" yX2_turn yX2_turn ∈ lw_all := lw_in 589 (by decide +kernel) (by decide +kernel)
theorem co_X2_turn : Cond.code yX2_turn cX2_turn 12 none ∈ lw_all := lw_in 590 (by decide +kernel) (by decide +kernel)
theorem ml_X2_38 : Cond.methodLinkNest "CompositeDecoder$Colors" 38 yX10_placeOf "CompositeDecoder" ∈ lw_nest := lw_inN 591 (by decide +kernel) (by decide +kernel)
theorem ml_X2_42 : Cond.methodLink "CompositeDecoder$Colors" 42 yX2_turnSegment ∈ lw_all := lw_in 592 (by decide +kernel) (by decide +kernel)
theorem im_X2_turnSegment : Cond.instanceMethod yX2_turnSegment ∈ lw_all := lw_in 594 (by decide +kernel) (by decide +kernel)
theorem co_X2_turnSegment : Cond.code yX2_turnSegment cX2_turnSegment 11 none ∈ lw_all := lw_in 595 (by decide +kernel) (by decide +kernel)
theorem kf_X2_55 : Cond.constantFloat "CompositeDecoder$Colors" 55 (1098907648) ∈ lw_all := lw_in 596 (by decide +kernel) (by decide +kernel)
theorem kf_X2_58 : Cond.constantFloat "CompositeDecoder$Colors" 58 (1117782016) ∈ lw_all := lw_in 597 (by decide +kernel) (by decide +kernel)
theorem ml_X2_46 : Cond.methodLink "CompositeDecoder$Colors" 46 yX2_mixSegment ∈ lw_all := lw_in 598 (by decide +kernel) (by decide +kernel)
theorem im_X2_mixSegment : Cond.instanceMethod yX2_mixSegment ∈ lw_all := lw_in 600 (by decide +kernel) (by decide +kernel)
theorem co_X2_mixSegment : Cond.code yX2_mixSegment cX2_mixSegment 4 none ∈ lw_all := lw_in 601 (by decide +kernel) (by decide +kernel)
theorem kf_X2_59 : Cond.constantFloat "CompositeDecoder$Colors" 59 (1056964608) ∈ lw_all := lw_in 602 (by decide +kernel) (by decide +kernel)
theorem ml_X10_197 : Cond.methodLink "CompositeDecoder" 197 yX8_limit ∈ lw_all := lw_in 603 (by decide +kernel) (by decide +kernel)
theorem ml_X10_203 : Cond.methodLink "CompositeDecoder" 203 yX5_watch ∈ lw_all := lw_in 604 (by decide +kernel) (by decide +kernel)
theorem im_X5_watch : Cond.instanceMethod yX5_watch ∈ lw_all := lw_in 605 (by decide +kernel) (by decide +kernel)
theorem se_X5_watch : Cond.selects "CompositeDecoder$Movement" yX5_watch yX5_watch ∈ lw_all := lw_in 606 (by decide +kernel) (by decide +kernel)
theorem co_X5_watch : Cond.code yX5_watch cX5_watch 6 none ∈ lw_all := lw_in 607 (by decide +kernel) (by decide +kernel)
theorem ml_X5_22 : Cond.methodLink "CompositeDecoder$Movement" 22 yJ9_abs_0f7a4 ∈ lw_all := lw_in 608 (by decide +kernel) (by decide +kernel)
theorem ml_X5_28 : Cond.methodLinkNest "CompositeDecoder$Movement" 28 yX10_placeOf "CompositeDecoder" ∈ lw_nest := lw_inN 609 (by decide +kernel) (by decide +kernel)
theorem ml_X5_32 : Cond.methodLink "CompositeDecoder$Movement" 32 yX5_kindOf ∈ lw_all := lw_in 610 (by decide +kernel) (by decide +kernel)
theorem im_X5_kindOf : Cond.instanceMethod yX5_kindOf ∈ lw_all := lw_in 612 (by decide +kernel) (by decide +kernel)
theorem co_X5_kindOf : Cond.code yX5_kindOf cX5_kindOf 5 (some .int) ∈ lw_all := lw_in 613 (by decide +kernel) (by decide +kernel)
theorem ml_X5_41 : Cond.methodLink "CompositeDecoder$Movement" 41 yX5_hasChanged ∈ lw_all := lw_in 614 (by decide +kernel) (by decide +kernel)
theorem im_X5_hasChanged : Cond.instanceMethod yX5_hasChanged ∈ lw_all := lw_in 616 (by decide +kernel) (by decide +kernel)
theorem co_X5_hasChanged : Cond.code yX5_hasChanged cX5_hasChanged 3 (some .boolean) ∈ lw_all := lw_in 617 (by decide +kernel) (by decide +kernel)
theorem ml_X5_45 : Cond.methodLinkNest "CompositeDecoder$Movement" 45 yX10_isPlace "CompositeDecoder" ∈ lw_nest := lw_inN 618 (by decide +kernel) (by decide +kernel)
theorem ml_X5_35 : Cond.methodLink "CompositeDecoder$Movement" 35 arraycopyName ∈ lw_all := lw_in 619 (by decide +kernel) (by decide +kernel)
theorem sm_arraycopy : Cond.static arraycopyName ∈ lw_all := lw_in 620 (by decide +kernel) (by decide +kernel)
theorem na_arraycopy : Cond.native arraycopyName ∈ lw_all := lw_in 621 (by decide +kernel) (by decide +kernel)
theorem ml_X10_210 : Cond.methodLink "CompositeDecoder" 210 yX10_tally ∈ lw_all := lw_in 622 (by decide +kernel) (by decide +kernel)
theorem sm_X10_tally : Cond.static yX10_tally ∈ lw_all := lw_in 623 (by decide +kernel) (by decide +kernel)
theorem co_X10_tally : Cond.code yX10_tally cX10_tally 6 (some .int) ∈ lw_all := lw_in 624 (by decide +kernel) (by decide +kernel)
theorem ml_L_64 : Cond.methodLink "CompositeDecoderLaw" 64 yX10_line ∈ lw_all := lw_in 625 (by decide +kernel) (by decide +kernel)
theorem im_X10_line : Cond.instanceMethod yX10_line ∈ lw_all := lw_in 626 (by decide +kernel) (by decide +kernel)
theorem se_X10_line : Cond.selects "CompositeDecoder" yX10_line yX10_line ∈ lw_all := lw_in 627 (by decide +kernel) (by decide +kernel)
theorem co_X10_line : Cond.code yX10_line cX10_line 3 (some .int) ∈ lw_all := lw_in 628 (by decide +kernel) (by decide +kernel)
theorem kc_X10_214 : Cond.constant "CompositeDecoder" 214 (-100004) ∈ lw_all := lw_in 629 (by decide +kernel) (by decide +kernel)
theorem ml_L_68 : Cond.methodLink "CompositeDecoderLaw" 68 yX10_luma ∈ lw_all := lw_in 630 (by decide +kernel) (by decide +kernel)
theorem im_X10_luma : Cond.instanceMethod yX10_luma ∈ lw_all := lw_in 631 (by decide +kernel) (by decide +kernel)
theorem se_X10_luma : Cond.selects "CompositeDecoder" yX10_luma yX10_luma ∈ lw_all := lw_in 632 (by decide +kernel) (by decide +kernel)
theorem co_X10_luma : Cond.code yX10_luma cX10_luma 3 (some .int) ∈ lw_all := lw_in 633 (by decide +kernel) (by decide +kernel)
theorem ml_L_72 : Cond.methodLink "CompositeDecoderLaw" 72 yX10_combed ∈ lw_all := lw_in 634 (by decide +kernel) (by decide +kernel)
theorem im_X10_combed : Cond.instanceMethod yX10_combed ∈ lw_all := lw_in 635 (by decide +kernel) (by decide +kernel)
theorem se_X10_combed : Cond.selects "CompositeDecoder" yX10_combed yX10_combed ∈ lw_all := lw_in 636 (by decide +kernel) (by decide +kernel)
theorem co_X10_combed : Cond.code yX10_combed cX10_combed 3 (some .int) ∈ lw_all := lw_in 637 (by decide +kernel) (by decide +kernel)
theorem ml_L_76 : Cond.methodLink "CompositeDecoderLaw" 76 yX10_u ∈ lw_all := lw_in 638 (by decide +kernel) (by decide +kernel)
theorem im_X10_u : Cond.instanceMethod yX10_u ∈ lw_all := lw_in 639 (by decide +kernel) (by decide +kernel)
theorem se_X10_u : Cond.selects "CompositeDecoder" yX10_u yX10_u ∈ lw_all := lw_in 640 (by decide +kernel) (by decide +kernel)
theorem co_X10_u : Cond.code yX10_u cX10_u 3 (some .float) ∈ lw_all := lw_in 641 (by decide +kernel) (by decide +kernel)
theorem ml_L_81 : Cond.methodLink "CompositeDecoderLaw" 81 yX10_v ∈ lw_all := lw_in 642 (by decide +kernel) (by decide +kernel)
theorem im_X10_v : Cond.instanceMethod yX10_v ∈ lw_all := lw_in 643 (by decide +kernel) (by decide +kernel)
theorem se_X10_v : Cond.selects "CompositeDecoder" yX10_v yX10_v ∈ lw_all := lw_in 644 (by decide +kernel) (by decide +kernel)
theorem co_X10_v : Cond.code yX10_v cX10_v 3 (some .float) ∈ lw_all := lw_in 645 (by decide +kernel) (by decide +kernel)
theorem ml_L_85 : Cond.methodLink "CompositeDecoderLaw" 85 yX10_thousandths ∈ lw_all := lw_in 646 (by decide +kernel) (by decide +kernel)
theorem im_X10_thousandths : Cond.instanceMethod yX10_thousandths ∈ lw_all := lw_in 647 (by decide +kernel) (by decide +kernel)
theorem se_X10_thousandths : Cond.selects "CompositeDecoder" yX10_thousandths yX10_thousandths ∈ lw_all := lw_in 648 (by decide +kernel) (by decide +kernel)
theorem co_X10_thousandths : Cond.code yX10_thousandths cX10_thousandths 6 (some .int) ∈ lw_all := lw_in 649 (by decide +kernel) (by decide +kernel)
theorem kf_X10_243 : Cond.constantFloat "CompositeDecoder" 243 (1148846080) ∈ lw_all := lw_in 650 (by decide +kernel) (by decide +kernel)
theorem ml_L_90 : Cond.methodLink "CompositeDecoderLaw" 90 yX10_reference ∈ lw_all := lw_in 651 (by decide +kernel) (by decide +kernel)
theorem im_X10_reference : Cond.instanceMethod yX10_reference ∈ lw_all := lw_in 652 (by decide +kernel) (by decide +kernel)
theorem se_X10_reference : Cond.selects "CompositeDecoder" yX10_reference yX10_reference ∈ lw_all := lw_in 653 (by decide +kernel) (by decide +kernel)
theorem co_X10_reference : Cond.code yX10_reference cX10_reference 3 (some .float) ∈ lw_all := lw_in 654 (by decide +kernel) (by decide +kernel)
theorem ml_L_94 : Cond.methodLink "CompositeDecoderLaw" 94 yX10_motion ∈ lw_all := lw_in 655 (by decide +kernel) (by decide +kernel)
theorem im_X10_motion : Cond.instanceMethod yX10_motion ∈ lw_all := lw_in 656 (by decide +kernel) (by decide +kernel)
theorem se_X10_motion : Cond.selects "CompositeDecoder" yX10_motion yX10_motion ∈ lw_all := lw_in 657 (by decide +kernel) (by decide +kernel)
theorem co_X10_motion : Cond.code yX10_motion cX10_motion 3 (some .int) ∈ lw_all := lw_in 658 (by decide +kernel) (by decide +kernel)
theorem ml_L_98 : Cond.methodLink "CompositeDecoderLaw" 98 yX10_count ∈ lw_all := lw_in 659 (by decide +kernel) (by decide +kernel)
theorem im_X10_count : Cond.instanceMethod yX10_count ∈ lw_all := lw_in 660 (by decide +kernel) (by decide +kernel)
theorem se_X10_count : Cond.selects "CompositeDecoder" yX10_count yX10_count ∈ lw_all := lw_in 661 (by decide +kernel) (by decide +kernel)
theorem co_X10_count : Cond.code yX10_count cX10_count 3 (some .int) ∈ lw_all := lw_in 662 (by decide +kernel) (by decide +kernel)
theorem ml_X10_251 : Cond.methodLink "CompositeDecoder" 251 yX10_countOfNow ∈ lw_all := lw_in 663 (by decide +kernel) (by decide +kernel)
theorem im_X10_countOfNow : Cond.instanceMethod yX10_countOfNow ∈ lw_all := lw_in 665 (by decide +kernel) (by decide +kernel)
theorem co_X10_countOfNow : Cond.code yX10_countOfNow cX10_countOfNow 3 (some .int) ∈ lw_all := lw_in 666 (by decide +kernel) (by decide +kernel)
theorem ml_X10_254 : Cond.methodLink "CompositeDecoder" 254 yX10_countOfDecoding ∈ lw_all := lw_in 667 (by decide +kernel) (by decide +kernel)
theorem im_X10_countOfDecoding : Cond.instanceMethod yX10_countOfDecoding ∈ lw_all := lw_in 669 (by decide +kernel) (by decide +kernel)
theorem co_X10_countOfDecoding : Cond.code yX10_countOfDecoding cX10_countOfDecoding 2 (some .int) ∈ lw_all := lw_in 670 (by decide +kernel) (by decide +kernel)
theorem ml_X10_263 : Cond.methodLink "CompositeDecoder" 263 yX10_wrongLumas ∈ lw_all := lw_in 671 (by decide +kernel) (by decide +kernel)
theorem im_X10_wrongLumas : Cond.instanceMethod yX10_wrongLumas ∈ lw_all := lw_in 673 (by decide +kernel) (by decide +kernel)
theorem co_X10_wrongLumas : Cond.code yX10_wrongLumas cX10_wrongLumas 3 (some .int) ∈ lw_all := lw_in 674 (by decide +kernel) (by decide +kernel)
theorem ml_X10_266 : Cond.methodLink "CompositeDecoder" 266 yX10_lumaDifferences ∈ lw_all := lw_in 675 (by decide +kernel) (by decide +kernel)
theorem im_X10_lumaDifferences : Cond.instanceMethod yX10_lumaDifferences ∈ lw_all := lw_in 677 (by decide +kernel) (by decide +kernel)
theorem co_X10_lumaDifferences : Cond.code yX10_lumaDifferences cX10_lumaDifferences 3 (some .int) ∈ lw_all := lw_in 678 (by decide +kernel) (by decide +kernel)
theorem ml_X10_272 : Cond.methodLink "CompositeDecoder" 272 yJ9_abs_0f7a4 ∈ lw_all := lw_in 679 (by decide +kernel) (by decide +kernel)
theorem ml_X10_269 : Cond.methodLink "CompositeDecoder" 269 yX10_tally_ ∈ lw_all := lw_in 680 (by decide +kernel) (by decide +kernel)
theorem sm_X10_tally_ : Cond.static yX10_tally_ ∈ lw_all := lw_in 681 (by decide +kernel) (by decide +kernel)
theorem co_X10_tally_ : Cond.code yX10_tally_ cX10_tally_ 7 (some .int) ∈ lw_all := lw_in 682 (by decide +kernel) (by decide +kernel)
theorem cl_L_10 : Cond.classLink "CompositeDecoderLaw" 10 "CompositeDecoderModel" ∈ lw_all := lw_in 683 (by decide +kernel) (by decide +kernel)
theorem it_X11 : Cond.instantiable "CompositeDecoderModel" 35 ∈ lw_all := lw_in 684 (by decide +kernel) (by decide +kernel)
theorem ml_L_12 : Cond.methodLink "CompositeDecoderLaw" 12 yX11_init ∈ lw_all := lw_in 685 (by decide +kernel) (by decide +kernel)
theorem im_X11_init : Cond.instanceMethod yX11_init ∈ lw_all := lw_in 686 (by decide +kernel) (by decide +kernel)
theorem co_X11_init : Cond.code yX11_init cX11_init 2 none ∈ lw_all := lw_in 687 (by decide +kernel) (by decide +kernel)
theorem ml_X11_1 : Cond.methodLink "CompositeDecoderModel" 1 objectInit ∈ lw_all := lw_in 688 (by decide +kernel) (by decide +kernel)
theorem fl_X11_7 : Cond.fieldLink "CompositeDecoderModel" 7 "CompositeDecoderModel" "lightOf" "[I" ∈ lw_all := lw_in 689 (by decide +kernel) (by decide +kernel)
theorem fl_X11_13 : Cond.fieldLink "CompositeDecoderModel" 13 "CompositeDecoderModel" "firstOf" "[I" ∈ lw_all := lw_in 690 (by decide +kernel) (by decide +kernel)
theorem fl_X11_16 : Cond.fieldLink "CompositeDecoderModel" 16 "CompositeDecoderModel" "secondOf" "[I" ∈ lw_all := lw_in 691 (by decide +kernel) (by decide +kernel)
theorem fl_X11_19 : Cond.fieldLink "CompositeDecoderModel" 19 "CompositeDecoderModel" "jitterOf" "[I" ∈ lw_all := lw_in 692 (by decide +kernel) (by decide +kernel)
theorem fl_X11_22 : Cond.fieldLink "CompositeDecoderModel" 22 "CompositeDecoderModel" "amplitudeOf" "[I" ∈ lw_all := lw_in 693 (by decide +kernel) (by decide +kernel)
theorem fl_X11_25 : Cond.fieldLink "CompositeDecoderModel" 25 "CompositeDecoderModel" "phaseOf" "[I" ∈ lw_all := lw_in 694 (by decide +kernel) (by decide +kernel)
theorem fl_X11_28 : Cond.fieldLink "CompositeDecoderModel" 28 "CompositeDecoderModel" "noiseOf" "[I" ∈ lw_all := lw_in 695 (by decide +kernel) (by decide +kernel)
theorem fl_X11_31 : Cond.fieldLink "CompositeDecoderModel" 31 "CompositeDecoderModel" "isMissing" "[Z" ∈ lw_all := lw_in 696 (by decide +kernel) (by decide +kernel)
theorem fl_X11_124 : Cond.fieldLink "CompositeDecoderModel" 124 "CompositeDecoderModel" "signal" "I" ∈ lw_all := lw_in 697 (by decide +kernel) (by decide +kernel)
theorem fl_X11_35 : Cond.fieldLink "CompositeDecoderModel" 35 "CompositeDecoderModel" "settingOf" "[I" ∈ lw_all := lw_in 698 (by decide +kernel) (by decide +kernel)
theorem fl_X11_128 : Cond.fieldLink "CompositeDecoderModel" 128 "CompositeDecoderModel" "typed" "I" ∈ lw_all := lw_in 699 (by decide +kernel) (by decide +kernel)
theorem fl_X11_38 : Cond.fieldLink "CompositeDecoderModel" 38 "CompositeDecoderModel" "text" "[C" ∈ lw_all := lw_in 700 (by decide +kernel) (by decide +kernel)
theorem fl_X11_42 : Cond.fieldLink "CompositeDecoderModel" 42 "CompositeDecoderModel" "read" "[I" ∈ lw_all := lw_in 701 (by decide +kernel) (by decide +kernel)
theorem fl_X11_189 : Cond.fieldLink "CompositeDecoderModel" 189 "CompositeDecoderModel" "decodings" "I" ∈ lw_all := lw_in 702 (by decide +kernel) (by decide +kernel)
theorem fl_X11_45 : Cond.fieldLink "CompositeDecoderModel" 45 "CompositeDecoderModel" "foundAt" "[I" ∈ lw_all := lw_in 703 (by decide +kernel) (by decide +kernel)
theorem fl_X11_48 : Cond.fieldLink "CompositeDecoderModel" 48 "CompositeDecoderModel" "startOf" "[I" ∈ lw_all := lw_in 704 (by decide +kernel) (by decide +kernel)
theorem fl_X11_51 : Cond.fieldLink "CompositeDecoderModel" 51 "CompositeDecoderModel" "isLocked" "[Z" ∈ lw_all := lw_in 705 (by decide +kernel) (by decide +kernel)
theorem fl_X11_54 : Cond.fieldLink "CompositeDecoderModel" 54 "CompositeDecoderModel" "wheelAt" "[I" ∈ lw_all := lw_in 706 (by decide +kernel) (by decide +kernel)
theorem fl_X11_57 : Cond.fieldLink "CompositeDecoderModel" 57 "CompositeDecoderModel" "burstP" "[I" ∈ lw_all := lw_in 707 (by decide +kernel) (by decide +kernel)
theorem fl_X11_60 : Cond.fieldLink "CompositeDecoderModel" 60 "CompositeDecoderModel" "burstQ" "[I" ∈ lw_all := lw_in 708 (by decide +kernel) (by decide +kernel)
theorem fl_X11_63 : Cond.fieldLink "CompositeDecoderModel" 63 "CompositeDecoderModel" "isGood" "[Z" ∈ lw_all := lw_in 709 (by decide +kernel) (by decide +kernel)
theorem fl_X11_66 : Cond.fieldLink "CompositeDecoderModel" 66 "CompositeDecoderModel" "hasColor" "[Z" ∈ lw_all := lw_in 710 (by decide +kernel) (by decide +kernel)
theorem fl_X11_163 : Cond.fieldLink "CompositeDecoderModel" 163 "CompositeDecoderModel" "turned" "I" ∈ lw_all := lw_in 711 (by decide +kernel) (by decide +kernel)
theorem fl_X11_166 : Cond.fieldLink "CompositeDecoderModel" 166 "CompositeDecoderModel" "steady" "I" ∈ lw_all := lw_in 712 (by decide +kernel) (by decide +kernel)
theorem fl_X11_69 : Cond.fieldLink "CompositeDecoderModel" 69 "CompositeDecoderModel" "turnP" "[F" ∈ lw_all := lw_in 713 (by decide +kernel) (by decide +kernel)
theorem fl_X11_73 : Cond.fieldLink "CompositeDecoderModel" 73 "CompositeDecoderModel" "turnQ" "[F" ∈ lw_all := lw_in 714 (by decide +kernel) (by decide +kernel)
theorem fl_X11_76 : Cond.fieldLink "CompositeDecoderModel" 76 "CompositeDecoderModel" "lumaOf" "[I" ∈ lw_all := lw_in 715 (by decide +kernel) (by decide +kernel)
theorem fl_X11_79 : Cond.fieldLink "CompositeDecoderModel" 79 "CompositeDecoderModel" "lumaBefore" "[I" ∈ lw_all := lw_in 716 (by decide +kernel) (by decide +kernel)
theorem fl_X11_82 : Cond.fieldLink "CompositeDecoderModel" 82 "CompositeDecoderModel" "wayOf" "[I" ∈ lw_all := lw_in 717 (by decide +kernel) (by decide +kernel)
theorem fl_X11_85 : Cond.fieldLink "CompositeDecoderModel" 85 "CompositeDecoderModel" "rawU" "[F" ∈ lw_all := lw_in 718 (by decide +kernel) (by decide +kernel)
theorem fl_X11_88 : Cond.fieldLink "CompositeDecoderModel" 88 "CompositeDecoderModel" "rawV" "[F" ∈ lw_all := lw_in 719 (by decide +kernel) (by decide +kernel)
theorem fl_X11_91 : Cond.fieldLink "CompositeDecoderModel" 91 "CompositeDecoderModel" "colorU" "[F" ∈ lw_all := lw_in 720 (by decide +kernel) (by decide +kernel)
theorem fl_X11_94 : Cond.fieldLink "CompositeDecoderModel" 94 "CompositeDecoderModel" "colorV" "[F" ∈ lw_all := lw_in 721 (by decide +kernel) (by decide +kernel)
theorem fl_X11_97 : Cond.fieldLink "CompositeDecoderModel" 97 "CompositeDecoderModel" "chroma" "[I" ∈ lw_all := lw_in 722 (by decide +kernel) (by decide +kernel)
theorem fl_X11_100 : Cond.fieldLink "CompositeDecoderModel" 100 "CompositeDecoderModel" "hasChanged" "[Z" ∈ lw_all := lw_in 723 (by decide +kernel) (by decide +kernel)
theorem ml_L_17 : Cond.methodLink "CompositeDecoderLaw" 17 yX11_setSegment ∈ lw_all := lw_in 795 (by decide +kernel) (by decide +kernel)
theorem im_X11_setSegment : Cond.instanceMethod yX11_setSegment ∈ lw_all := lw_in 796 (by decide +kernel) (by decide +kernel)
theorem se_X11_setSegment : Cond.selects "CompositeDecoderModel" yX11_setSegment yX11_setSegment ∈ lw_all := lw_in 797 (by decide +kernel) (by decide +kernel)
theorem co_X11_setSegment : Cond.code yX11_setSegment cX11_setSegment 7 (some .int) ∈ lw_all := lw_in 798 (by decide +kernel) (by decide +kernel)
theorem ml_X11_111 : Cond.methodLink "CompositeDecoderModel" 111 yX11_noSegment ∈ lw_all := lw_in 799 (by decide +kernel) (by decide +kernel)
theorem sm_X11_noSegment : Cond.static yX11_noSegment ∈ lw_all := lw_in 800 (by decide +kernel) (by decide +kernel)
theorem co_X11_noSegment : Cond.code yX11_noSegment cX11_noSegment 2 (some .boolean) ∈ lw_all := lw_in 801 (by decide +kernel) (by decide +kernel)
theorem ml_X11_107 : Cond.methodLink "CompositeDecoderModel" 107 yX11_noLine ∈ lw_all := lw_in 802 (by decide +kernel) (by decide +kernel)
theorem sm_X11_noLine : Cond.static yX11_noLine ∈ lw_all := lw_in 803 (by decide +kernel) (by decide +kernel)
theorem co_X11_noLine : Cond.code yX11_noLine cX11_noLine 1 (some .boolean) ∈ lw_all := lw_in 804 (by decide +kernel) (by decide +kernel)
theorem ml_X11_103 : Cond.methodLink "CompositeDecoderModel" 103 yX11_in ∈ lw_all := lw_in 805 (by decide +kernel) (by decide +kernel)
theorem sm_X11_in : Cond.static yX11_in ∈ lw_all := lw_in 806 (by decide +kernel) (by decide +kernel)
theorem co_X11_in : Cond.code yX11_in cX11_in 3 (some .boolean) ∈ lw_all := lw_in 807 (by decide +kernel) (by decide +kernel)
theorem kc_X11_115 : Cond.constant "CompositeDecoderModel" 115 (-100001) ∈ lw_all := lw_in 808 (by decide +kernel) (by decide +kernel)
theorem ml_X11_116 : Cond.methodLink "CompositeDecoderModel" 116 yX11_isColor ∈ lw_all := lw_in 809 (by decide +kernel) (by decide +kernel)
theorem sm_X11_isColor : Cond.static yX11_isColor ∈ lw_all := lw_in 810 (by decide +kernel) (by decide +kernel)
theorem co_X11_isColor : Cond.code yX11_isColor cX11_isColor 3 (some .boolean) ∈ lw_all := lw_in 811 (by decide +kernel) (by decide +kernel)
theorem kc_X11_119 : Cond.constant "CompositeDecoderModel" 119 (-100002) ∈ lw_all := lw_in 812 (by decide +kernel) (by decide +kernel)
theorem ml_X11_120 : Cond.methodLink "CompositeDecoderModel" 120 yX11_put ∈ lw_all := lw_in 813 (by decide +kernel) (by decide +kernel)
theorem im_X11_put : Cond.instanceMethod yX11_put ∈ lw_all := lw_in 815 (by decide +kernel) (by decide +kernel)
theorem co_X11_put : Cond.code yX11_put cX11_put 5 none ∈ lw_all := lw_in 816 (by decide +kernel) (by decide +kernel)
theorem ml_L_22 : Cond.methodLink "CompositeDecoderLaw" 22 yX11_fill ∈ lw_all := lw_in 817 (by decide +kernel) (by decide +kernel)
theorem im_X11_fill : Cond.instanceMethod yX11_fill ∈ lw_all := lw_in 818 (by decide +kernel) (by decide +kernel)
theorem se_X11_fill : Cond.selects "CompositeDecoderModel" yX11_fill yX11_fill ∈ lw_all := lw_in 819 (by decide +kernel) (by decide +kernel)
theorem co_X11_fill : Cond.code yX11_fill cX11_fill 7 (some .int) ∈ lw_all := lw_in 820 (by decide +kernel) (by decide +kernel)
theorem ml_L_26 : Cond.methodLink "CompositeDecoderLaw" 26 yX11_setLine ∈ lw_all := lw_in 821 (by decide +kernel) (by decide +kernel)
theorem im_X11_setLine : Cond.instanceMethod yX11_setLine ∈ lw_all := lw_in 822 (by decide +kernel) (by decide +kernel)
theorem se_X11_setLine : Cond.selects "CompositeDecoderModel" yX11_setLine yX11_setLine ∈ lw_all := lw_in 823 (by decide +kernel) (by decide +kernel)
theorem co_X11_setLine : Cond.code yX11_setLine cX11_setLine 7 (some .int) ∈ lw_all := lw_in 824 (by decide +kernel) (by decide +kernel)
theorem ml_L_31 : Cond.methodLink "CompositeDecoderLaw" 31 yX11_miss ∈ lw_all := lw_in 825 (by decide +kernel) (by decide +kernel)
theorem im_X11_miss : Cond.instanceMethod yX11_miss ∈ lw_all := lw_in 826 (by decide +kernel) (by decide +kernel)
theorem se_X11_miss : Cond.selects "CompositeDecoderModel" yX11_miss yX11_miss ∈ lw_all := lw_in 827 (by decide +kernel) (by decide +kernel)
theorem co_X11_miss : Cond.code yX11_miss cX11_miss 4 (some .int) ∈ lw_all := lw_in 828 (by decide +kernel) (by decide +kernel)
theorem ml_L_36 : Cond.methodLink "CompositeDecoderLaw" 36 yX11_setStandard ∈ lw_all := lw_in 829 (by decide +kernel) (by decide +kernel)
theorem im_X11_setStandard : Cond.instanceMethod yX11_setStandard ∈ lw_all := lw_in 830 (by decide +kernel) (by decide +kernel)
theorem se_X11_setStandard : Cond.selects "CompositeDecoderModel" yX11_setStandard yX11_setStandard ∈ lw_all := lw_in 831 (by decide +kernel) (by decide +kernel)
theorem co_X11_setStandard : Cond.code yX11_setStandard cX11_setStandard 3 (some .int) ∈ lw_all := lw_in 832 (by decide +kernel) (by decide +kernel)
theorem ml_L_41 : Cond.methodLink "CompositeDecoderLaw" 41 yX11_type ∈ lw_all := lw_in 833 (by decide +kernel) (by decide +kernel)
theorem im_X11_type : Cond.instanceMethod yX11_type ∈ lw_all := lw_in 834 (by decide +kernel) (by decide +kernel)
theorem se_X11_type : Cond.selects "CompositeDecoderModel" yX11_type yX11_type ∈ lw_all := lw_in 835 (by decide +kernel) (by decide +kernel)
theorem co_X11_type : Cond.code yX11_type cX11_type 2 (some .int) ∈ lw_all := lw_in 836 (by decide +kernel) (by decide +kernel)
theorem kc_X11_131 : Cond.constant "CompositeDecoderModel" 131 (-100003) ∈ lw_all := lw_in 837 (by decide +kernel) (by decide +kernel)
theorem ml_L_46 : Cond.methodLink "CompositeDecoderLaw" 46 yX11_clearText ∈ lw_all := lw_in 838 (by decide +kernel) (by decide +kernel)
theorem im_X11_clearText : Cond.instanceMethod yX11_clearText ∈ lw_all := lw_in 839 (by decide +kernel) (by decide +kernel)
theorem se_X11_clearText : Cond.selects "CompositeDecoderModel" yX11_clearText yX11_clearText ∈ lw_all := lw_in 840 (by decide +kernel) (by decide +kernel)
theorem co_X11_clearText : Cond.code yX11_clearText cX11_clearText 2 (some .int) ∈ lw_all := lw_in 841 (by decide +kernel) (by decide +kernel)
theorem ml_L_50 : Cond.methodLink "CompositeDecoderLaw" 50 yX11_readBars ∈ lw_all := lw_in 842 (by decide +kernel) (by decide +kernel)
theorem im_X11_readBars : Cond.instanceMethod yX11_readBars ∈ lw_all := lw_in 843 (by decide +kernel) (by decide +kernel)
theorem se_X11_readBars : Cond.selects "CompositeDecoderModel" yX11_readBars yX11_readBars ∈ lw_all := lw_in 844 (by decide +kernel) (by decide +kernel)
theorem co_X11_readBars : Cond.code yX11_readBars cX11_readBars 9 (some .int) ∈ lw_all := lw_in 845 (by decide +kernel) (by decide +kernel)
theorem ml_X11_133 : Cond.methodLink "CompositeDecoderModel" 133 yX11_barOf ∈ lw_all := lw_in 846 (by decide +kernel) (by decide +kernel)
theorem sm_X11_barOf : Cond.static yX11_barOf ∈ lw_all := lw_in 847 (by decide +kernel) (by decide +kernel)
theorem co_X11_barOf : Cond.code yX11_barOf cX11_barOf 1 (some .int) ∈ lw_all := lw_in 848 (by decide +kernel) (by decide +kernel)
theorem kc_X11_132 : Cond.constant "CompositeDecoderModel" 132 (-100004) ∈ lw_all := lw_in 849 (by decide +kernel) (by decide +kernel)
theorem ml_X11_137 : Cond.methodLink "CompositeDecoderModel" 137 yX11_putBar ∈ lw_all := lw_in 850 (by decide +kernel) (by decide +kernel)
theorem im_X11_putBar : Cond.instanceMethod yX11_putBar ∈ lw_all := lw_in 852 (by decide +kernel) (by decide +kernel)
theorem co_X11_putBar : Cond.code yX11_putBar cX11_putBar 3 none ∈ lw_all := lw_in 853 (by decide +kernel) (by decide +kernel)
theorem ml_L_55 : Cond.methodLink "CompositeDecoderLaw" 55 yX11_sample ∈ lw_all := lw_in 854 (by decide +kernel) (by decide +kernel)
theorem im_X11_sample : Cond.instanceMethod yX11_sample ∈ lw_all := lw_in 855 (by decide +kernel) (by decide +kernel)
theorem se_X11_sample : Cond.selects "CompositeDecoderModel" yX11_sample yX11_sample ∈ lw_all := lw_in 856 (by decide +kernel) (by decide +kernel)
theorem co_X11_sample : Cond.code yX11_sample cX11_sample 3 (some .int) ∈ lw_all := lw_in 857 (by decide +kernel) (by decide +kernel)
theorem ml_X11_151 : Cond.methodLink "CompositeDecoderModel" 151 yX11_signal ∈ lw_all := lw_in 858 (by decide +kernel) (by decide +kernel)
theorem im_X11_signal : Cond.instanceMethod yX11_signal ∈ lw_all := lw_in 860 (by decide +kernel) (by decide +kernel)
theorem co_X11_signal : Cond.code yX11_signal cX11_signal 8 (some .int) ∈ lw_all := lw_in 861 (by decide +kernel) (by decide +kernel)
theorem ml_X11_141 : Cond.methodLink "CompositeDecoderModel" 141 yX11_rest ∈ lw_all := lw_in 862 (by decide +kernel) (by decide +kernel)
theorem sm_X11_rest : Cond.static yX11_rest ∈ lw_all := lw_in 863 (by decide +kernel) (by decide +kernel)
theorem co_X11_rest : Cond.code yX11_rest cX11_rest 1 (some .int) ∈ lw_all := lw_in 864 (by decide +kernel) (by decide +kernel)
theorem ml_X11_145 : Cond.methodLink "CompositeDecoderModel" 145 yX11_a ∈ lw_all := lw_in 865 (by decide +kernel) (by decide +kernel)
theorem sm_X11_a : Cond.static yX11_a ∈ lw_all := lw_in 866 (by decide +kernel) (by decide +kernel)
theorem co_X11_a : Cond.code yX11_a cX11_a 1 (some .int) ∈ lw_all := lw_in 867 (by decide +kernel) (by decide +kernel)
theorem ml_X11_148 : Cond.methodLink "CompositeDecoderModel" 148 yX11_b ∈ lw_all := lw_in 868 (by decide +kernel) (by decide +kernel)
theorem sm_X11_b : Cond.static yX11_b ∈ lw_all := lw_in 869 (by decide +kernel) (by decide +kernel)
theorem co_X11_b : Cond.code yX11_b cX11_b 1 (some .int) ∈ lw_all := lw_in 870 (by decide +kernel) (by decide +kernel)
theorem ml_L_59 : Cond.methodLink "CompositeDecoderLaw" 59 yX11_set ∈ lw_all := lw_in 871 (by decide +kernel) (by decide +kernel)
theorem im_X11_set : Cond.instanceMethod yX11_set ∈ lw_all := lw_in 872 (by decide +kernel) (by decide +kernel)
theorem se_X11_set : Cond.selects "CompositeDecoderModel" yX11_set yX11_set ∈ lw_all := lw_in 873 (by decide +kernel) (by decide +kernel)
theorem co_X11_set : Cond.code yX11_set cX11_set 6 (some .int) ∈ lw_all := lw_in 874 (by decide +kernel) (by decide +kernel)
theorem ml_L_63 : Cond.methodLink "CompositeDecoderLaw" 63 yX11_decode ∈ lw_all := lw_in 875 (by decide +kernel) (by decide +kernel)
theorem im_X11_decode : Cond.instanceMethod yX11_decode ∈ lw_all := lw_in 876 (by decide +kernel) (by decide +kernel)
theorem se_X11_decode : Cond.selects "CompositeDecoderModel" yX11_decode yX11_decode ∈ lw_all := lw_in 877 (by decide +kernel) (by decide +kernel)
theorem co_X11_decode : Cond.code yX11_decode cX11_decode 5 (some .int) ∈ lw_all := lw_in 878 (by decide +kernel) (by decide +kernel)
theorem ml_X11_192 : Cond.methodLink "CompositeDecoderModel" 192 yX11_findPulses ∈ lw_all := lw_in 879 (by decide +kernel) (by decide +kernel)
theorem im_X11_findPulses : Cond.instanceMethod yX11_findPulses ∈ lw_all := lw_in 881 (by decide +kernel) (by decide +kernel)
theorem co_X11_findPulses : Cond.code yX11_findPulses cX11_findPulses 9 (some .int) ∈ lw_all := lw_in 882 (by decide +kernel) (by decide +kernel)
theorem ml_X11_154 : Cond.methodLink "CompositeDecoderModel" 154 yX11_findPulse ∈ lw_all := lw_in 883 (by decide +kernel) (by decide +kernel)
theorem im_X11_findPulse : Cond.instanceMethod yX11_findPulse ∈ lw_all := lw_in 885 (by decide +kernel) (by decide +kernel)
theorem co_X11_findPulse : Cond.code yX11_findPulse cX11_findPulse 5 (some .int) ∈ lw_all := lw_in 886 (by decide +kernel) (by decide +kernel)
theorem ml_X11_157 : Cond.methodLink "CompositeDecoderModel" 157 yX11_quotient ∈ lw_all := lw_in 887 (by decide +kernel) (by decide +kernel)
theorem sm_X11_quotient : Cond.static yX11_quotient ∈ lw_all := lw_in 888 (by decide +kernel) (by decide +kernel)
theorem co_X11_quotient : Cond.code yX11_quotient cX11_quotient 3 (some .int) ∈ lw_all := lw_in 889 (by decide +kernel) (by decide +kernel)
theorem ml_X11_196 : Cond.methodLink "CompositeDecoderModel" 196 yX11_findBursts ∈ lw_all := lw_in 890 (by decide +kernel) (by decide +kernel)
theorem im_X11_findBursts : Cond.instanceMethod yX11_findBursts ∈ lw_all := lw_in 892 (by decide +kernel) (by decide +kernel)
theorem co_X11_findBursts : Cond.code yX11_findBursts cX11_findBursts 7 none ∈ lw_all := lw_in 893 (by decide +kernel) (by decide +kernel)
theorem ml_X11_160 : Cond.methodLink "CompositeDecoderModel" 160 yX11_size ∈ lw_all := lw_in 894 (by decide +kernel) (by decide +kernel)
theorem sm_X11_size : Cond.static yX11_size ∈ lw_all := lw_in 895 (by decide +kernel) (by decide +kernel)
theorem co_X11_size : Cond.code yX11_size cX11_size 1 (some .int) ∈ lw_all := lw_in 896 (by decide +kernel) (by decide +kernel)
theorem ml_X11_199 : Cond.methodLink "CompositeDecoderModel" 199 yX11_guessed ∈ lw_all := lw_in 897 (by decide +kernel) (by decide +kernel)
theorem im_X11_guessed : Cond.instanceMethod yX11_guessed ∈ lw_all := lw_in 899 (by decide +kernel) (by decide +kernel)
theorem co_X11_guessed : Cond.code yX11_guessed cX11_guessed 1 (some .int) ∈ lw_all := lw_in 900 (by decide +kernel) (by decide +kernel)
theorem ml_X11_202 : Cond.methodLink "CompositeDecoderModel" 202 yX11_findTurns ∈ lw_all := lw_in 901 (by decide +kernel) (by decide +kernel)
theorem im_X11_findTurns : Cond.instanceMethod yX11_findTurns ∈ lw_all := lw_in 903 (by decide +kernel) (by decide +kernel)
theorem co_X11_findTurns : Cond.code yX11_findTurns cX11_findTurns 8 none ∈ lw_all := lw_in 904 (by decide +kernel) (by decide +kernel)
theorem kf_X11_169 : Cond.constantFloat "CompositeDecoderModel" 169 (1048576000) ∈ lw_all := lw_in 905 (by decide +kernel) (by decide +kernel)
theorem ml_X11_206 : Cond.methodLink "CompositeDecoderModel" 206 yX11_comb ∈ lw_all := lw_in 906 (by decide +kernel) (by decide +kernel)
theorem im_X11_comb : Cond.instanceMethod yX11_comb ∈ lw_all := lw_in 908 (by decide +kernel) (by decide +kernel)
theorem co_X11_comb : Cond.code yX11_comb cX11_comb 17 none ∈ lw_all := lw_in 909 (by decide +kernel) (by decide +kernel)
theorem ml_X11_179 : Cond.methodLink "CompositeDecoderModel" 179 yX11_way ∈ lw_all := lw_in 910 (by decide +kernel) (by decide +kernel)
theorem im_X11_way : Cond.instanceMethod yX11_way ∈ lw_all := lw_in 912 (by decide +kernel) (by decide +kernel)
theorem co_X11_way : Cond.code yX11_way cX11_way 7 (some .int) ∈ lw_all := lw_in 913 (by decide +kernel) (by decide +kernel)
theorem ml_X11_176 : Cond.methodLink "CompositeDecoderModel" 176 yX11_isNear ∈ lw_all := lw_in 914 (by decide +kernel) (by decide +kernel)
theorem im_X11_isNear : Cond.instanceMethod yX11_isNear ∈ lw_all := lw_in 916 (by decide +kernel) (by decide +kernel)
theorem co_X11_isNear : Cond.code yX11_isNear cX11_isNear 4 (some .boolean) ∈ lw_all := lw_in 917 (by decide +kernel) (by decide +kernel)
theorem ml_X11_173 : Cond.methodLink "CompositeDecoderModel" 173 yX11_sumOf ∈ lw_all := lw_in 918 (by decide +kernel) (by decide +kernel)
theorem im_X11_sumOf : Cond.instanceMethod yX11_sumOf ∈ lw_all := lw_in 920 (by decide +kernel) (by decide +kernel)
theorem co_X11_sumOf : Cond.code yX11_sumOf cX11_sumOf 5 (some .int) ∈ lw_all := lw_in 921 (by decide +kernel) (by decide +kernel)
theorem ml_X11_170 : Cond.methodLink "CompositeDecoderModel" 170 yX11_from ∈ lw_all := lw_in 922 (by decide +kernel) (by decide +kernel)
theorem im_X11_from : Cond.instanceMethod yX11_from ∈ lw_all := lw_in 924 (by decide +kernel) (by decide +kernel)
theorem co_X11_from : Cond.code yX11_from cX11_from 3 (some .int) ∈ lw_all := lw_in 925 (by decide +kernel) (by decide +kernel)
theorem ml_X11_183 : Cond.methodLink "CompositeDecoderModel" 183 yX11_chromaAt ∈ lw_all := lw_in 926 (by decide +kernel) (by decide +kernel)
theorem im_X11_chromaAt : Cond.instanceMethod yX11_chromaAt ∈ lw_all := lw_in 928 (by decide +kernel) (by decide +kernel)
theorem co_X11_chromaAt : Cond.code yX11_chromaAt cX11_chromaAt 5 (some .int) ∈ lw_all := lw_in 929 (by decide +kernel) (by decide +kernel)
theorem kf_X11_186 : Cond.constantFloat "CompositeDecoderModel" 186 (1098907648) ∈ lw_all := lw_in 930 (by decide +kernel) (by decide +kernel)
theorem kf_X11_187 : Cond.constantFloat "CompositeDecoderModel" 187 (1117782016) ∈ lw_all := lw_in 931 (by decide +kernel) (by decide +kernel)
theorem kf_X11_188 : Cond.constantFloat "CompositeDecoderModel" 188 (1056964608) ∈ lw_all := lw_in 932 (by decide +kernel) (by decide +kernel)
theorem ml_X11_210 : Cond.methodLink "CompositeDecoderModel" 210 yX11_findMotion ∈ lw_all := lw_in 933 (by decide +kernel) (by decide +kernel)
theorem im_X11_findMotion : Cond.instanceMethod yX11_findMotion ∈ lw_all := lw_in 935 (by decide +kernel) (by decide +kernel)
theorem co_X11_findMotion : Cond.code yX11_findMotion cX11_findMotion 2 none ∈ lw_all := lw_in 936 (by decide +kernel) (by decide +kernel)
theorem ml_L_67 : Cond.methodLink "CompositeDecoderLaw" 67 yX11_line ∈ lw_all := lw_in 937 (by decide +kernel) (by decide +kernel)
theorem im_X11_line : Cond.instanceMethod yX11_line ∈ lw_all := lw_in 938 (by decide +kernel) (by decide +kernel)
theorem se_X11_line : Cond.selects "CompositeDecoderModel" yX11_line yX11_line ∈ lw_all := lw_in 939 (by decide +kernel) (by decide +kernel)
theorem co_X11_line : Cond.code yX11_line cX11_line 3 (some .int) ∈ lw_all := lw_in 940 (by decide +kernel) (by decide +kernel)
theorem ml_L_71 : Cond.methodLink "CompositeDecoderLaw" 71 yX11_luma ∈ lw_all := lw_in 941 (by decide +kernel) (by decide +kernel)
theorem im_X11_luma : Cond.instanceMethod yX11_luma ∈ lw_all := lw_in 942 (by decide +kernel) (by decide +kernel)
theorem se_X11_luma : Cond.selects "CompositeDecoderModel" yX11_luma yX11_luma ∈ lw_all := lw_in 943 (by decide +kernel) (by decide +kernel)
theorem co_X11_luma : Cond.code yX11_luma cX11_luma 3 (some .int) ∈ lw_all := lw_in 944 (by decide +kernel) (by decide +kernel)
theorem ml_L_75 : Cond.methodLink "CompositeDecoderLaw" 75 yX11_combed ∈ lw_all := lw_in 945 (by decide +kernel) (by decide +kernel)
theorem im_X11_combed : Cond.instanceMethod yX11_combed ∈ lw_all := lw_in 946 (by decide +kernel) (by decide +kernel)
theorem se_X11_combed : Cond.selects "CompositeDecoderModel" yX11_combed yX11_combed ∈ lw_all := lw_in 947 (by decide +kernel) (by decide +kernel)
theorem co_X11_combed : Cond.code yX11_combed cX11_combed 3 (some .int) ∈ lw_all := lw_in 948 (by decide +kernel) (by decide +kernel)
theorem ml_L_80 : Cond.methodLink "CompositeDecoderLaw" 80 yX11_u ∈ lw_all := lw_in 949 (by decide +kernel) (by decide +kernel)
theorem im_X11_u : Cond.instanceMethod yX11_u ∈ lw_all := lw_in 950 (by decide +kernel) (by decide +kernel)
theorem se_X11_u : Cond.selects "CompositeDecoderModel" yX11_u yX11_u ∈ lw_all := lw_in 951 (by decide +kernel) (by decide +kernel)
theorem co_X11_u : Cond.code yX11_u cX11_u 3 (some .float) ∈ lw_all := lw_in 952 (by decide +kernel) (by decide +kernel)
theorem ml_L_84 : Cond.methodLink "CompositeDecoderLaw" 84 yX11_v ∈ lw_all := lw_in 953 (by decide +kernel) (by decide +kernel)
theorem im_X11_v : Cond.instanceMethod yX11_v ∈ lw_all := lw_in 954 (by decide +kernel) (by decide +kernel)
theorem se_X11_v : Cond.selects "CompositeDecoderModel" yX11_v yX11_v ∈ lw_all := lw_in 955 (by decide +kernel) (by decide +kernel)
theorem co_X11_v : Cond.code yX11_v cX11_v 3 (some .float) ∈ lw_all := lw_in 956 (by decide +kernel) (by decide +kernel)
theorem ml_L_89 : Cond.methodLink "CompositeDecoderLaw" 89 yX11_thousandths ∈ lw_all := lw_in 957 (by decide +kernel) (by decide +kernel)
theorem im_X11_thousandths : Cond.instanceMethod yX11_thousandths ∈ lw_all := lw_in 958 (by decide +kernel) (by decide +kernel)
theorem se_X11_thousandths : Cond.selects "CompositeDecoderModel" yX11_thousandths yX11_thousandths ∈ lw_all := lw_in 959 (by decide +kernel) (by decide +kernel)
theorem co_X11_thousandths : Cond.code yX11_thousandths cX11_thousandths 5 (some .int) ∈ lw_all := lw_in 960 (by decide +kernel) (by decide +kernel)
theorem kf_X11_213 : Cond.constantFloat "CompositeDecoderModel" 213 (1148846080) ∈ lw_all := lw_in 961 (by decide +kernel) (by decide +kernel)
theorem ml_L_93 : Cond.methodLink "CompositeDecoderLaw" 93 yX11_reference ∈ lw_all := lw_in 962 (by decide +kernel) (by decide +kernel)
theorem im_X11_reference : Cond.instanceMethod yX11_reference ∈ lw_all := lw_in 963 (by decide +kernel) (by decide +kernel)
theorem se_X11_reference : Cond.selects "CompositeDecoderModel" yX11_reference yX11_reference ∈ lw_all := lw_in 964 (by decide +kernel) (by decide +kernel)
theorem co_X11_reference : Cond.code yX11_reference cX11_reference 3 (some .float) ∈ lw_all := lw_in 965 (by decide +kernel) (by decide +kernel)
theorem ml_L_97 : Cond.methodLink "CompositeDecoderLaw" 97 yX11_motion ∈ lw_all := lw_in 966 (by decide +kernel) (by decide +kernel)
theorem im_X11_motion : Cond.instanceMethod yX11_motion ∈ lw_all := lw_in 967 (by decide +kernel) (by decide +kernel)
theorem se_X11_motion : Cond.selects "CompositeDecoderModel" yX11_motion yX11_motion ∈ lw_all := lw_in 968 (by decide +kernel) (by decide +kernel)
theorem co_X11_motion : Cond.code yX11_motion cX11_motion 3 (some .int) ∈ lw_all := lw_in 969 (by decide +kernel) (by decide +kernel)
theorem ml_X11_214 : Cond.methodLink "CompositeDecoderModel" 214 yX11_motionAt ∈ lw_all := lw_in 970 (by decide +kernel) (by decide +kernel)
theorem im_X11_motionAt : Cond.instanceMethod yX11_motionAt ∈ lw_all := lw_in 972 (by decide +kernel) (by decide +kernel)
theorem co_X11_motionAt : Cond.code yX11_motionAt cX11_motionAt 6 (some .int) ∈ lw_all := lw_in 973 (by decide +kernel) (by decide +kernel)
theorem ml_L_101 : Cond.methodLink "CompositeDecoderLaw" 101 yX11_count ∈ lw_all := lw_in 974 (by decide +kernel) (by decide +kernel)
theorem im_X11_count : Cond.instanceMethod yX11_count ∈ lw_all := lw_in 975 (by decide +kernel) (by decide +kernel)
theorem se_X11_count : Cond.selects "CompositeDecoderModel" yX11_count yX11_count ∈ lw_all := lw_in 976 (by decide +kernel) (by decide +kernel)
theorem co_X11_count : Cond.code yX11_count cX11_count 3 (some .int) ∈ lw_all := lw_in 977 (by decide +kernel) (by decide +kernel)
theorem ml_X11_217 : Cond.methodLink "CompositeDecoderModel" 217 yX11_segments ∈ lw_all := lw_in 978 (by decide +kernel) (by decide +kernel)
theorem im_X11_segments : Cond.instanceMethod yX11_segments ∈ lw_all := lw_in 980 (by decide +kernel) (by decide +kernel)
theorem co_X11_segments : Cond.code yX11_segments cX11_segments 6 (some .int) ∈ lw_all := lw_in 981 (by decide +kernel) (by decide +kernel)
theorem ml_X11_220 : Cond.methodLink "CompositeDecoderModel" 220 yX11_linesWithColor ∈ lw_all := lw_in 982 (by decide +kernel) (by decide +kernel)
theorem im_X11_linesWithColor : Cond.instanceMethod yX11_linesWithColor ∈ lw_all := lw_in 984 (by decide +kernel) (by decide +kernel)
theorem co_X11_linesWithColor : Cond.code yX11_linesWithColor cX11_linesWithColor 3 (some .int) ∈ lw_all := lw_in 985 (by decide +kernel) (by decide +kernel)
end
