section
-- ===== PART A: goes FIRST, ahead of the names: the tables' words, and 'selects' of the private methods out of them =====
/-- a private method of a class that the tables say can be made, by its rows of tables_1 -/
def lw_okq (q : MethodName × Nat) : Prop := (q.1.cls ≠ "java/lang/invoke/MethodHandle" ∧ q.1.cls ≠ "java/lang/invoke/VarHandle") ∧ Cond.instantiable q.1.cls q.2 ∈ tables_1 ∧ Cond.privateMethod q.1 ∈ tables_1 ∧ Cond.instanceMethod q.1 ∈ tables_1
theorem lw_p0 : lw_okq (⟨"SharedEchoes$History", "stateAt", "(I)LSharedEchoes$State;"⟩, 3) := ⟨⟨by decide +kernel, by decide +kernel⟩, List.mem_of_getElem? (i := 124) (by decide +kernel), List.mem_of_getElem? (i := 240) (by decide +kernel), List.mem_of_getElem? (i := 241) (by decide +kernel)⟩
theorem lw_p1 : lw_okq (⟨"SharedEchoes", "wouldBeQuiet", "(III)Z"⟩, 6) := ⟨⟨by decide +kernel, by decide +kernel⟩, List.mem_of_getElem? (i := 17) (by decide +kernel), List.mem_of_getElem? (i := 494) (by decide +kernel), List.mem_of_getElem? (i := 495) (by decide +kernel)⟩
theorem lw_p2 : lw_okq (⟨"SharedEchoes", "tapsOn", "()I"⟩, 6) := ⟨⟨by decide +kernel, by decide +kernel⟩, List.mem_of_getElem? (i := 17) (by decide +kernel), List.mem_of_getElem? (i := 502) (by decide +kernel), List.mem_of_getElem? (i := 503) (by decide +kernel)⟩
theorem lw_p3 : lw_okq (⟨"SharedEchoes", "tapsLost", "()I"⟩, 6) := ⟨⟨by decide +kernel, by decide +kernel⟩, List.mem_of_getElem? (i := 17) (by decide +kernel), List.mem_of_getElem? (i := 506) (by decide +kernel), List.mem_of_getElem? (i := 507) (by decide +kernel)⟩
theorem lw_p4 : lw_okq (⟨"SharedEchoes", "findFault", "()V"⟩, 6) := ⟨⟨by decide +kernel, by decide +kernel⟩, List.mem_of_getElem? (i := 17) (by decide +kernel), List.mem_of_getElem? (i := 538) (by decide +kernel), List.mem_of_getElem? (i := 539) (by decide +kernel)⟩
theorem lw_p5 : lw_okq (⟨"SharedEchoes$Order", "numbersOfKind", "()I"⟩, 4) := ⟨⟨by decide +kernel, by decide +kernel⟩, List.mem_of_getElem? (i := 158) (by decide +kernel), List.mem_of_getElem? (i := 550) (by decide +kernel), List.mem_of_getElem? (i := 551) (by decide +kernel)⟩
theorem lw_p6 : lw_okq (⟨"SharedEchoes$Order", "readNumber", "(LSharedEchoes$Text;IZ)V"⟩, 4) := ⟨⟨by decide +kernel, by decide +kernel⟩, List.mem_of_getElem? (i := 158) (by decide +kernel), List.mem_of_getElem? (i := 554) (by decide +kernel), List.mem_of_getElem? (i := 555) (by decide +kernel)⟩
theorem lw_p7 : lw_okq (⟨"SharedEchoes$Order", "readSign", "(LSharedEchoes$Text;I)V"⟩, 4) := ⟨⟨by decide +kernel, by decide +kernel⟩, List.mem_of_getElem? (i := 158) (by decide +kernel), List.mem_of_getElem? (i := 561) (by decide +kernel), List.mem_of_getElem? (i := 562) (by decide +kernel)⟩
theorem lw_p8 : lw_okq (⟨"SharedEchoes", "orderError", "(I)I"⟩, 6) := ⟨⟨by decide +kernel, by decide +kernel⟩, List.mem_of_getElem? (i := 17) (by decide +kernel), List.mem_of_getElem? (i := 569) (by decide +kernel), List.mem_of_getElem? (i := 570) (by decide +kernel)⟩
theorem lw_p9 : lw_okq (⟨"SharedEchoes", "wordsThatGo", "()I"⟩, 6) := ⟨⟨by decide +kernel, by decide +kernel⟩, List.mem_of_getElem? (i := 17) (by decide +kernel), List.mem_of_getElem? (i := 577) (by decide +kernel), List.mem_of_getElem? (i := 578) (by decide +kernel)⟩
theorem lw_p10 : lw_okq (⟨"SharedEchoes", "doOrder", "()V"⟩, 6) := ⟨⟨by decide +kernel, by decide +kernel⟩, List.mem_of_getElem? (i := 17) (by decide +kernel), List.mem_of_getElem? (i := 585) (by decide +kernel), List.mem_of_getElem? (i := 586) (by decide +kernel)⟩
theorem lw_p11 : lw_okq (⟨"SharedEchoesModel", "keeps", "()V"⟩, 9) := ⟨⟨by decide +kernel, by decide +kernel⟩, List.mem_of_getElem? (i := 589) (by decide +kernel), List.mem_of_getElem? (i := 629) (by decide +kernel), List.mem_of_getElem? (i := 630) (by decide +kernel)⟩
theorem lw_p12 : lw_okq (⟨"SharedEchoesModel", "copies", "(II)V"⟩, 9) := ⟨⟨by decide +kernel, by decide +kernel⟩, List.mem_of_getElem? (i := 589) (by decide +kernel), List.mem_of_getElem? (i := 633) (by decide +kernel), List.mem_of_getElem? (i := 634) (by decide +kernel)⟩
theorem lw_p13 : lw_okq (⟨"SharedEchoesModel", "doSample", "(I)I"⟩, 9) := ⟨⟨by decide +kernel, by decide +kernel⟩, List.mem_of_getElem? (i := 589) (by decide +kernel), List.mem_of_getElem? (i := 637) (by decide +kernel), List.mem_of_getElem? (i := 638) (by decide +kernel)⟩
theorem lw_p14 : lw_okq (⟨"SharedEchoesModel", "goes", "(II)I"⟩, 9) := ⟨⟨by decide +kernel, by decide +kernel⟩, List.mem_of_getElem? (i := 589) (by decide +kernel), List.mem_of_getElem? (i := 644) (by decide +kernel), List.mem_of_getElem? (i := 645) (by decide +kernel)⟩
theorem lw_p15 : lw_okq (⟨"SharedEchoesModel", "share", "(II)I"⟩, 9) := ⟨⟨by decide +kernel, by decide +kernel⟩, List.mem_of_getElem? (i := 589) (by decide +kernel), List.mem_of_getElem? (i := 648) (by decide +kernel), List.mem_of_getElem? (i := 649) (by decide +kernel)⟩
def lw_privs_1 : List (MethodName × Nat) := [(⟨"SharedEchoes$History", "stateAt", "(I)LSharedEchoes$State;"⟩, 3), (⟨"SharedEchoes", "wouldBeQuiet", "(III)Z"⟩, 6), (⟨"SharedEchoes", "tapsOn", "()I"⟩, 6), (⟨"SharedEchoes", "tapsLost", "()I"⟩, 6), (⟨"SharedEchoes", "findFault", "()V"⟩, 6), (⟨"SharedEchoes$Order", "numbersOfKind", "()I"⟩, 4), (⟨"SharedEchoes$Order", "readNumber", "(LSharedEchoes$Text;IZ)V"⟩, 4), (⟨"SharedEchoes$Order", "readSign", "(LSharedEchoes$Text;I)V"⟩, 4), (⟨"SharedEchoes", "orderError", "(I)I"⟩, 6), (⟨"SharedEchoes", "wordsThatGo", "()I"⟩, 6), (⟨"SharedEchoes", "doOrder", "()V"⟩, 6), (⟨"SharedEchoesModel", "keeps", "()V"⟩, 9), (⟨"SharedEchoesModel", "copies", "(II)V"⟩, 9), (⟨"SharedEchoesModel", "doSample", "(I)I"⟩, 9), (⟨"SharedEchoesModel", "goes", "(II)I"⟩, 9), (⟨"SharedEchoesModel", "share", "(II)I"⟩, 9)]
theorem lw_r1 : ∀ q ∈ lw_privs_1, lw_okq q := List.forall_mem_cons.mpr ⟨lw_p0, List.forall_mem_cons.mpr ⟨lw_p1, List.forall_mem_cons.mpr ⟨lw_p2, List.forall_mem_cons.mpr ⟨lw_p3, List.forall_mem_cons.mpr ⟨lw_p4, List.forall_mem_cons.mpr ⟨lw_p5, List.forall_mem_cons.mpr ⟨lw_p6, List.forall_mem_cons.mpr ⟨lw_p7, List.forall_mem_cons.mpr ⟨lw_p8, List.forall_mem_cons.mpr ⟨lw_p9, List.forall_mem_cons.mpr ⟨lw_p10, List.forall_mem_cons.mpr ⟨lw_p11, List.forall_mem_cons.mpr ⟨lw_p12, List.forall_mem_cons.mpr ⟨lw_p13, List.forall_mem_cons.mpr ⟨lw_p14, List.forall_mem_cons.mpr ⟨lw_p15, fun _ h => absurd h List.not_mem_nil⟩⟩⟩⟩⟩⟩⟩⟩⟩⟩⟩⟩⟩⟩⟩⟩
theorem lw_p16 : lw_okq (⟨"SharedEchoesModel", "reads", "(II)I"⟩, 9) := ⟨⟨by decide +kernel, by decide +kernel⟩, List.mem_of_getElem? (i := 589) (by decide +kernel), List.mem_of_getElem? (i := 652) (by decide +kernel), List.mem_of_getElem? (i := 653) (by decide +kernel)⟩
theorem lw_p17 : lw_okq (⟨"SharedEchoesModel", "isLost", "(II)Z"⟩, 9) := ⟨⟨by decide +kernel, by decide +kernel⟩, List.mem_of_getElem? (i := 589) (by decide +kernel), List.mem_of_getElem? (i := 656) (by decide +kernel), List.mem_of_getElem? (i := 657) (by decide +kernel)⟩
theorem lw_p18 : lw_okq (⟨"SharedEchoesModel", "length", "(I)I"⟩, 9) := ⟨⟨by decide +kernel, by decide +kernel⟩, List.mem_of_getElem? (i := 589) (by decide +kernel), List.mem_of_getElem? (i := 660) (by decide +kernel), List.mem_of_getElem? (i := 661) (by decide +kernel)⟩
theorem lw_p19 : lw_okq (⟨"SharedEchoesModel", "shaped", "(II)I"⟩, 9) := ⟨⟨by decide +kernel, by decide +kernel⟩, List.mem_of_getElem? (i := 589) (by decide +kernel), List.mem_of_getElem? (i := 664) (by decide +kernel), List.mem_of_getElem? (i := 665) (by decide +kernel)⟩
theorem lw_p20 : lw_okq (⟨"SharedEchoesModel", "acted", "(I)I"⟩, 9) := ⟨⟨by decide +kernel, by decide +kernel⟩, List.mem_of_getElem? (i := 589) (by decide +kernel), List.mem_of_getElem? (i := 672) (by decide +kernel), List.mem_of_getElem? (i := 673) (by decide +kernel)⟩
theorem lw_p21 : lw_okq (⟨"SharedEchoesModel", "doSilence", "(I)I"⟩, 9) := ⟨⟨by decide +kernel, by decide +kernel⟩, List.mem_of_getElem? (i := 589) (by decide +kernel), List.mem_of_getElem? (i := 680) (by decide +kernel), List.mem_of_getElem? (i := 681) (by decide +kernel)⟩
theorem lw_p22 : lw_okq (⟨"SharedEchoesModel", "doTap", "(III)I"⟩, 9) := ⟨⟨by decide +kernel, by decide +kernel⟩, List.mem_of_getElem? (i := 589) (by decide +kernel), List.mem_of_getElem? (i := 688) (by decide +kernel), List.mem_of_getElem? (i := 689) (by decide +kernel)⟩
theorem lw_p23 : lw_okq (⟨"SharedEchoesModel", "doFeedback", "(II)I"⟩, 9) := ⟨⟨by decide +kernel, by decide +kernel⟩, List.mem_of_getElem? (i := 589) (by decide +kernel), List.mem_of_getElem? (i := 701) (by decide +kernel), List.mem_of_getElem? (i := 702) (by decide +kernel)⟩
theorem lw_p24 : lw_okq (⟨"SharedEchoesModel", "doSteal", "(I)I"⟩, 9) := ⟨⟨by decide +kernel, by decide +kernel⟩, List.mem_of_getElem? (i := 589) (by decide +kernel), List.mem_of_getElem? (i := 709) (by decide +kernel), List.mem_of_getElem? (i := 710) (by decide +kernel)⟩
theorem lw_p25 : lw_okq (⟨"SharedEchoesModel", "doGive", "(I)I"⟩, 9) := ⟨⟨by decide +kernel, by decide +kernel⟩, List.mem_of_getElem? (i := 589) (by decide +kernel), List.mem_of_getElem? (i := 718) (by decide +kernel), List.mem_of_getElem? (i := 719) (by decide +kernel)⟩
theorem lw_p26 : lw_okq (⟨"SharedEchoesModel", "silenced", "()V"⟩, 9) := ⟨⟨by decide +kernel, by decide +kernel⟩, List.mem_of_getElem? (i := 589) (by decide +kernel), List.mem_of_getElem? (i := 761) (by decide +kernel), List.mem_of_getElem? (i := 762) (by decide +kernel)⟩
theorem lw_p27 : lw_okq (⟨"SharedEchoesModel", "greatestWord", "(I)I"⟩, 9) := ⟨⟨by decide +kernel, by decide +kernel⟩, List.mem_of_getElem? (i := 589) (by decide +kernel), List.mem_of_getElem? (i := 769) (by decide +kernel), List.mem_of_getElem? (i := 770) (by decide +kernel)⟩
theorem lw_p28 : lw_okq (⟨"SharedEchoesModel", "isQuiet", "(III)Z"⟩, 9) := ⟨⟨by decide +kernel, by decide +kernel⟩, List.mem_of_getElem? (i := 589) (by decide +kernel), List.mem_of_getElem? (i := 781) (by decide +kernel), List.mem_of_getElem? (i := 782) (by decide +kernel)⟩
theorem lw_p29 : lw_okq (⟨"SharedEchoesModel", "taps", "(Z)I"⟩, 9) := ⟨⟨by decide +kernel, by decide +kernel⟩, List.mem_of_getElem? (i := 589) (by decide +kernel), List.mem_of_getElem? (i := 789) (by decide +kernel), List.mem_of_getElem? (i := 790) (by decide +kernel)⟩
theorem lw_p30 : lw_okq (⟨"SharedEchoesModel", "words", "(Z)I"⟩, 9) := ⟨⟨by decide +kernel, by decide +kernel⟩, List.mem_of_getElem? (i := 589) (by decide +kernel), List.mem_of_getElem? (i := 793) (by decide +kernel), List.mem_of_getElem? (i := 794) (by decide +kernel)⟩
theorem lw_p31 : lw_okq (⟨"SharedEchoesModel", "goesOn", "()I"⟩, 9) := ⟨⟨by decide +kernel, by decide +kernel⟩, List.mem_of_getElem? (i := 589) (by decide +kernel), List.mem_of_getElem? (i := 813) (by decide +kernel), List.mem_of_getElem? (i := 814) (by decide +kernel)⟩
def lw_privs_2 : List (MethodName × Nat) := [(⟨"SharedEchoesModel", "reads", "(II)I"⟩, 9), (⟨"SharedEchoesModel", "isLost", "(II)Z"⟩, 9), (⟨"SharedEchoesModel", "length", "(I)I"⟩, 9), (⟨"SharedEchoesModel", "shaped", "(II)I"⟩, 9), (⟨"SharedEchoesModel", "acted", "(I)I"⟩, 9), (⟨"SharedEchoesModel", "doSilence", "(I)I"⟩, 9), (⟨"SharedEchoesModel", "doTap", "(III)I"⟩, 9), (⟨"SharedEchoesModel", "doFeedback", "(II)I"⟩, 9), (⟨"SharedEchoesModel", "doSteal", "(I)I"⟩, 9), (⟨"SharedEchoesModel", "doGive", "(I)I"⟩, 9), (⟨"SharedEchoesModel", "silenced", "()V"⟩, 9), (⟨"SharedEchoesModel", "greatestWord", "(I)I"⟩, 9), (⟨"SharedEchoesModel", "isQuiet", "(III)Z"⟩, 9), (⟨"SharedEchoesModel", "taps", "(Z)I"⟩, 9), (⟨"SharedEchoesModel", "words", "(Z)I"⟩, 9), (⟨"SharedEchoesModel", "goesOn", "()I"⟩, 9)]
theorem lw_r2 : ∀ q ∈ lw_privs_2, lw_okq q := List.forall_mem_cons.mpr ⟨lw_p16, List.forall_mem_cons.mpr ⟨lw_p17, List.forall_mem_cons.mpr ⟨lw_p18, List.forall_mem_cons.mpr ⟨lw_p19, List.forall_mem_cons.mpr ⟨lw_p20, List.forall_mem_cons.mpr ⟨lw_p21, List.forall_mem_cons.mpr ⟨lw_p22, List.forall_mem_cons.mpr ⟨lw_p23, List.forall_mem_cons.mpr ⟨lw_p24, List.forall_mem_cons.mpr ⟨lw_p25, List.forall_mem_cons.mpr ⟨lw_p26, List.forall_mem_cons.mpr ⟨lw_p27, List.forall_mem_cons.mpr ⟨lw_p28, List.forall_mem_cons.mpr ⟨lw_p29, List.forall_mem_cons.mpr ⟨lw_p30, List.forall_mem_cons.mpr ⟨lw_p31, fun _ h => absurd h List.not_mem_nil⟩⟩⟩⟩⟩⟩⟩⟩⟩⟩⟩⟩⟩⟩⟩⟩
theorem lw_p32 : lw_okq (⟨"SharedEchoesModel", "sign", "()I"⟩, 9) := ⟨⟨by decide +kernel, by decide +kernel⟩, List.mem_of_getElem? (i := 589) (by decide +kernel), List.mem_of_getElem? (i := 817) (by decide +kernel), List.mem_of_getElem? (i := 818) (by decide +kernel)⟩
theorem lw_p33 : lw_okq (⟨"SharedEchoesModel", "order", "(I)Z"⟩, 9) := ⟨⟨by decide +kernel, by decide +kernel⟩, List.mem_of_getElem? (i := 589) (by decide +kernel), List.mem_of_getElem? (i := 821) (by decide +kernel), List.mem_of_getElem? (i := 822) (by decide +kernel)⟩
theorem lw_p34 : lw_okq (⟨"SharedEchoesModel", "number", "(IZ)Z"⟩, 9) := ⟨⟨by decide +kernel, by decide +kernel⟩, List.mem_of_getElem? (i := 589) (by decide +kernel), List.mem_of_getElem? (i := 825) (by decide +kernel), List.mem_of_getElem? (i := 826) (by decide +kernel)⟩
theorem lw_p35 : lw_okq (⟨"SharedEchoesModel", "takes", "(I)Z"⟩, 9) := ⟨⟨by decide +kernel, by decide +kernel⟩, List.mem_of_getElem? (i := 589) (by decide +kernel), List.mem_of_getElem? (i := 829) (by decide +kernel), List.mem_of_getElem? (i := 830) (by decide +kernel)⟩
theorem lw_p36 : lw_okq (⟨"SharedEchoesModel", "does", "(I)I"⟩, 9) := ⟨⟨by decide +kernel, by decide +kernel⟩, List.mem_of_getElem? (i := 589) (by decide +kernel), List.mem_of_getElem? (i := 833) (by decide +kernel), List.mem_of_getElem? (i := 834) (by decide +kernel)⟩
def lw_privs_3 : List (MethodName × Nat) := [(⟨"SharedEchoesModel", "sign", "()I"⟩, 9), (⟨"SharedEchoesModel", "order", "(I)Z"⟩, 9), (⟨"SharedEchoesModel", "number", "(IZ)Z"⟩, 9), (⟨"SharedEchoesModel", "takes", "(I)Z"⟩, 9), (⟨"SharedEchoesModel", "does", "(I)I"⟩, 9)]
theorem lw_r3 : ∀ q ∈ lw_privs_3, lw_okq q := List.forall_mem_cons.mpr ⟨lw_p32, List.forall_mem_cons.mpr ⟨lw_p33, List.forall_mem_cons.mpr ⟨lw_p34, List.forall_mem_cons.mpr ⟨lw_p35, List.forall_mem_cons.mpr ⟨lw_p36, fun _ h => absurd h List.not_mem_nil⟩⟩⟩⟩⟩
def lw_privs : List (MethodName × Nat) := lw_privs_1 ++ (lw_privs_2 ++ (lw_privs_3))
def lw_tbl : List Cond := k2_sels lw_privs ++ tables_1
theorem lw_privs_ok : ∀ q ∈ lw_privs, lw_okq q := by
  show ∀ q ∈ lw_privs_1 ++ (lw_privs_2 ++ (lw_privs_3)), lw_okq q
  exact List.forall_mem_append.mpr ⟨lw_r1, List.forall_mem_append.mpr ⟨lw_r2, lw_r3⟩⟩
/-- the streams that the claim lets the run draw from -/
abbrev lw_cs : List Choice := [Jvm.Choice.named "NaN.bits"]
theorem lw_bits : nanBits ∈ lw_cs := by first | decide | exact List.mem_cons_self | simp [lw_cs, nanBits]
end
section
/-! names, fields, codes (printed by TURN: claim/NAMES.whole) -/
def RX0 : String := "SharedEchoes$Fault"
def TX0 : u_T := fun k => match k with
  | 0 => ("SharedEchoes$Fault", "there", "Z", false)
  | 1 => ("SharedEchoes$Fault", "position", "I", false)
  | 2 => ("SharedEchoes$Fault", "reason", "I", false)
  | _ => ("SharedEchoes$Fault", "cause", "I", false)
def tyX0 : Nat → FieldType := fun k => match k with
  | 0 => .boolean
  | 1 => .int
  | 2 => .int
  | _ => .int
theorem nmX0 : ∀ a, a < 4 → ∀ b, b < 4 → a ≠ b → (TX0 a).2.1 ≠ (TX0 b).2.1 := by decide +kernel
theorem tyX0_ok : ∀ k, k < 4 → parseFieldDescriptor (TX0 k).2.2.1 = some (tyX0 k) := by decide +kernel
abbrev cX0_init : ByteArray := prog_2_method_1_code
def yX0_init : MethodName := ⟨RX0, "<init>", "()V"⟩
abbrev cX0_put : ByteArray := prog_2_method_2_code
def yX0_put : MethodName := ⟨RX0, "put", "(III)V"⟩
def RX1 : String := "SharedEchoes$History"
def TX1 : u_T := fun k => match k with
  | 0 => ("SharedEchoes$History", "states", "[LSharedEchoes$State;", true)
  | 1 => ("SharedEchoes$History", "oldest", "I", false)
  | _ => ("SharedEchoes$History", "kept", "I", false)
def tyX1 : Nat → FieldType := fun k => match k with
  | 0 => .array (.object "SharedEchoes$State")
  | 1 => .int
  | _ => .int
theorem nmX1 : ∀ a, a < 3 → ∀ b, b < 3 → a ≠ b → (TX1 a).2.1 ≠ (TX1 b).2.1 := by decide +kernel
theorem tyX1_ok : ∀ k, k < 3 → parseFieldDescriptor (TX1 k).2.2.1 = some (tyX1 k) := by decide +kernel
abbrev cX1_init : ByteArray := prog_3_method_1_code
def yX1_init : MethodName := ⟨RX1, "<init>", "()V"⟩
abbrev cX1_stateAt : ByteArray := prog_3_method_2_code
def yX1_stateAt : MethodName := ⟨RX1, "stateAt", "(I)LSharedEchoes$State;"⟩
abbrev cX1_keep : ByteArray := prog_3_method_3_code
def yX1_keep : MethodName := ⟨RX1, "keep", "(LSharedEchoes$State;)V"⟩
abbrev cX1_restoreInto : ByteArray := prog_3_method_4_code
def yX1_restoreInto : MethodName := ⟨RX1, "restoreInto", "(LSharedEchoes$State;)V"⟩
def RX2 : String := "SharedEchoes$Meters"
def TX2 : u_T := fun k => match k with
  | 0 => ("SharedEchoes$Meters", "samples", "I", false)
  | 1 => ("SharedEchoes$Meters", "greatest", "I", false)
  | 2 => ("SharedEchoes$Meters", "heldOutputs", "I", false)
  | 3 => ("SharedEchoes$Meters", "heldWords", "I", false)
  | _ => ("SharedEchoes$Meters", "sum", "J", false)
def tyX2 : Nat → FieldType := fun k => match k with
  | 0 => .int
  | 1 => .int
  | 2 => .int
  | 3 => .int
  | _ => .long
theorem nmX2 : ∀ a, a < 5 → ∀ b, b < 5 → a ≠ b → (TX2 a).2.1 ≠ (TX2 b).2.1 := by decide +kernel
theorem tyX2_ok : ∀ k, k < 5 → parseFieldDescriptor (TX2 k).2.2.1 = some (tyX2 k) := by decide +kernel
abbrev cX2_init : ByteArray := prog_4_method_1_code
def yX2_init : MethodName := ⟨RX2, "<init>", "()V"⟩
abbrev cX2_add : ByteArray := prog_4_method_2_code
def yX2_add : MethodName := ⟨RX2, "add", "(IZZ)V"⟩
abbrev cX2_startAnew : ByteArray := prog_4_method_3_code
def yX2_startAnew : MethodName := ⟨RX2, "startAnew", "()V"⟩
abbrev cX2_bitsOfMean : ByteArray := prog_4_method_4_code
def yX2_bitsOfMean : MethodName := ⟨RX2, "bitsOfMean", "()I"⟩
abbrev cX2_bitsOf : ByteArray := prog_4_method_5_code
def yX2_bitsOf : MethodName := ⟨RX2, "bitsOf", "(F)I"⟩
abbrev cX2_takeOver : ByteArray := prog_4_method_6_code
def yX2_takeOver : MethodName := ⟨RX2, "takeOver", "(LSharedEchoes$Meters;)V"⟩
def RX3 : String := "SharedEchoes$Order"
def TX3 : u_T := fun k => match k with
  | 0 => ("SharedEchoes$Order", "numbers", "[I", true)
  | 1 => ("SharedEchoes$Order", "kind", "I", false)
  | 2 => ("SharedEchoes$Order", "end", "I", false)
  | _ => ("SharedEchoes$Order", "whole", "Z", false)
def tyX3 : Nat → FieldType := fun k => match k with
  | 0 => .array .int
  | 1 => .int
  | 2 => .int
  | _ => .boolean
theorem nmX3 : ∀ a, a < 4 → ∀ b, b < 4 → a ≠ b → (TX3 a).2.1 ≠ (TX3 b).2.1 := by decide +kernel
theorem tyX3_ok : ∀ k, k < 4 → parseFieldDescriptor (TX3 k).2.2.1 = some (tyX3 k) := by decide +kernel
abbrev cX3_init : ByteArray := prog_5_method_1_code
def yX3_init : MethodName := ⟨RX3, "<init>", "()V"⟩
abbrev cX3_numberAt : ByteArray := prog_5_method_2_code
def yX3_numberAt : MethodName := ⟨RX3, "numberAt", "(I)I"⟩
abbrev cX3_read : ByteArray := prog_5_method_3_code
def yX3_read : MethodName := ⟨RX3, "read", "(LSharedEchoes$Text;I)V"⟩
abbrev cX3_numbersOfKind : ByteArray := prog_5_method_4_code
def yX3_numbersOfKind : MethodName := ⟨RX3, "numbersOfKind", "()I"⟩
abbrev cX3_readNumber : ByteArray := prog_5_method_5_code
def yX3_readNumber : MethodName := ⟨RX3, "readNumber", "(LSharedEchoes$Text;IZ)V"⟩
abbrev cX3_readSign : ByteArray := prog_5_method_6_code
def yX3_readSign : MethodName := ⟨RX3, "readSign", "(LSharedEchoes$Text;I)V"⟩
abbrev cX3_isDigit : ByteArray := prog_5_method_7_code
def yX3_isDigit : MethodName := ⟨RX3, "isDigit", "(I)Z"⟩
def RX4 : String := "SharedEchoes$Outputs"
def TX4 : u_T := fun k => match k with
  | 0 => ("SharedEchoes$Outputs", "row", "[I", true)
  | 1 => ("SharedEchoes$Outputs", "next", "I", false)
  | _ => ("SharedEchoes$Outputs", "kept", "I", false)
def tyX4 : Nat → FieldType := fun k => match k with
  | 0 => .array .int
  | 1 => .int
  | _ => .int
theorem nmX4 : ∀ a, a < 3 → ∀ b, b < 3 → a ≠ b → (TX4 a).2.1 ≠ (TX4 b).2.1 := by decide +kernel
theorem tyX4_ok : ∀ k, k < 3 → parseFieldDescriptor (TX4 k).2.2.1 = some (tyX4 k) := by decide +kernel
abbrev cX4_init : ByteArray := prog_6_method_1_code
def yX4_init : MethodName := ⟨RX4, "<init>", "()V"⟩
abbrev cX4_add : ByteArray := prog_6_method_2_code
def yX4_add : MethodName := ⟨RX4, "add", "(I)V"⟩
abbrev cX4_latest : ByteArray := prog_6_method_3_code
def yX4_latest : MethodName := ⟨RX4, "latest", "(I)I"⟩
abbrev cX4_takeOver : ByteArray := prog_6_method_4_code
def yX4_takeOver : MethodName := ⟨RX4, "takeOver", "(LSharedEchoes$Outputs;)V"⟩
def RX5 : String := "SharedEchoes$Ring"
def TX5 : u_T := fun k => match k with
  | 0 => ("SharedEchoes$Ring", "words", "[I", true)
  | 1 => ("SharedEchoes$Ring", "first", "I", false)
  | _ => ("SharedEchoes$Ring", "length", "I", false)
def tyX5 : Nat → FieldType := fun k => match k with
  | 0 => .array .int
  | 1 => .int
  | _ => .int
theorem nmX5 : ∀ a, a < 3 → ∀ b, b < 3 → a ≠ b → (TX5 a).2.1 ≠ (TX5 b).2.1 := by decide +kernel
theorem tyX5_ok : ∀ k, k < 3 → parseFieldDescriptor (TX5 k).2.2.1 = some (tyX5 k) := by decide +kernel
abbrev cX5_init : ByteArray := prog_7_method_1_code
def yX5_init : MethodName := ⟨RX5, "<init>", "()V"⟩
abbrev cX5_wordAt : ByteArray := prog_7_method_2_code
def yX5_wordAt : MethodName := ⟨RX5, "wordAt", "(I)I"⟩
abbrev cX5_write : ByteArray := prog_7_method_3_code
def yX5_write : MethodName := ⟨RX5, "write", "(I)V"⟩
abbrev cX5_shorten : ByteArray := prog_7_method_4_code
def yX5_shorten : MethodName := ⟨RX5, "shorten", "(I)V"⟩
abbrev cX5_lengthen : ByteArray := prog_7_method_5_code
def yX5_lengthen : MethodName := ⟨RX5, "lengthen", "(I)V"⟩
abbrev cX5_fillWithZeros : ByteArray := prog_7_method_6_code
def yX5_fillWithZeros : MethodName := ⟨RX5, "fillWithZeros", "()V"⟩
abbrev cX5_wordsAbove : ByteArray := prog_7_method_7_code
def yX5_wordsAbove : MethodName := ⟨RX5, "wordsAbove", "(I)I"⟩
abbrev cX5_sumOfAmounts : ByteArray := prog_7_method_8_code
def yX5_sumOfAmounts : MethodName := ⟨RX5, "sumOfAmounts", "()I"⟩
abbrev cX5_takeOver : ByteArray := prog_7_method_9_code
def yX5_takeOver : MethodName := ⟨RX5, "takeOver", "(LSharedEchoes$Ring;)V"⟩
def RX6 : String := "SharedEchoes$State"
def TX6 : u_T := fun k => match k with
  | 0 => ("SharedEchoes$State", "ring", "LSharedEchoes$Ring;", true)
  | 1 => ("SharedEchoes$State", "outputs", "LSharedEchoes$Outputs;", true)
  | 2 => ("SharedEchoes$State", "meters", "LSharedEchoes$Meters;", true)
  | 3 => ("SharedEchoes$State", "delays", "[I", true)
  | 4 => ("SharedEchoes$State", "gains", "[I", true)
  | 5 => ("SharedEchoes$State", "limit", "I", false)
  | 6 => ("SharedEchoes$State", "shape", "I", false)
  | _ => ("SharedEchoes$State", "stolenSoFar", "I", false)
def tyX6 : Nat → FieldType := fun k => match k with
  | 0 => .object "SharedEchoes$Ring"
  | 1 => .object "SharedEchoes$Outputs"
  | 2 => .object "SharedEchoes$Meters"
  | 3 => .array .int
  | 4 => .array .int
  | 5 => .int
  | 6 => .int
  | _ => .int
theorem nmX6 : ∀ a, a < 8 → ∀ b, b < 8 → a ≠ b → (TX6 a).2.1 ≠ (TX6 b).2.1 := by decide +kernel
theorem tyX6_ok : ∀ k, k < 8 → parseFieldDescriptor (TX6 k).2.2.1 = some (tyX6 k) := by decide +kernel
abbrev cX6_init : ByteArray := prog_8_method_1_code
def yX6_init : MethodName := ⟨RX6, "<init>", "()V"⟩
abbrev cX6_isRow : ByteArray := prog_8_method_2_code
def yX6_isRow : MethodName := ⟨RX6, "isRow", "(I)Z"⟩
abbrev cX6_delayOf : ByteArray := prog_8_method_3_code
def yX6_delayOf : MethodName := ⟨RX6, "delayOf", "(I)I"⟩
abbrev cX6_gainOf : ByteArray := prog_8_method_4_code
def yX6_gainOf : MethodName := ⟨RX6, "gainOf", "(I)I"⟩
abbrev cX6_putRow : ByteArray := prog_8_method_5_code
def yX6_putRow : MethodName := ⟨RX6, "putRow", "(III)V"⟩
abbrev cX6_isOn : ByteArray := prog_8_method_6_code
def yX6_isOn : MethodName := ⟨RX6, "isOn", "(I)Z"⟩
abbrev cX6_isLost : ByteArray := prog_8_method_7_code
def yX6_isLost : MethodName := ⟨RX6, "isLost", "(I)Z"⟩
abbrev cX6_readingOf : ByteArray := prog_8_method_8_code
def yX6_readingOf : MethodName := ⟨RX6, "readingOf", "(I)I"⟩
abbrev cX6_shareOf : ByteArray := prog_8_method_9_code
def yX6_shareOf : MethodName := ⟨RX6, "shareOf", "(I)I"⟩
abbrev cX6_letThrough : ByteArray := prog_8_method_10_code
def yX6_letThrough : MethodName := ⟨RX6, "letThrough", "(I)I"⟩
abbrev cX6_letSilenceThrough : ByteArray := prog_8_method_11_code
def yX6_letSilenceThrough : MethodName := ⟨RX6, "letSilenceThrough", "(I)I"⟩
abbrev cX6_feedRing : ByteArray := prog_8_method_12_code
def yX6_feedRing : MethodName := ⟨RX6, "feedRing", "(I)I"⟩
abbrev cX6_wordsOfProgram : ByteArray := prog_8_method_13_code
def yX6_wordsOfProgram : MethodName := ⟨RX6, "wordsOfProgram", "()I"⟩
abbrev cX6_takeWords : ByteArray := prog_8_method_14_code
def yX6_takeWords : MethodName := ⟨RX6, "takeWords", "(I)V"⟩
abbrev cX6_putSetting : ByteArray := prog_8_method_15_code
def yX6_putSetting : MethodName := ⟨RX6, "putSetting", "(II)I"⟩
abbrev cX6_takeOver : ByteArray := prog_8_method_16_code
def yX6_takeOver : MethodName := ⟨RX6, "takeOver", "(LSharedEchoes$State;)V"⟩
def RX7 : String := "SharedEchoes$Text"
def TX7 : u_T := fun k => match k with
  | 0 => ("SharedEchoes$Text", "characters", "[I", true)
  | _ => ("SharedEchoes$Text", "length", "I", false)
def tyX7 : Nat → FieldType := fun k => match k with
  | 0 => .array .int
  | _ => .int
theorem nmX7 : ∀ a, a < 2 → ∀ b, b < 2 → a ≠ b → (TX7 a).2.1 ≠ (TX7 b).2.1 := by decide +kernel
theorem tyX7_ok : ∀ k, k < 2 → parseFieldDescriptor (TX7 k).2.2.1 = some (tyX7 k) := by decide +kernel
abbrev cX7_init : ByteArray := prog_9_method_1_code
def yX7_init : MethodName := ⟨RX7, "<init>", "()V"⟩
abbrev cX7_characterAt : ByteArray := prog_9_method_2_code
def yX7_characterAt : MethodName := ⟨RX7, "characterAt", "(I)I"⟩
abbrev cX7_append : ByteArray := prog_9_method_3_code
def yX7_append : MethodName := ⟨RX7, "append", "(I)V"⟩
def RX8 : String := "SharedEchoes"
def TX8 : u_T := fun k => match k with
  | 0 => ("SharedEchoes", "now", "LSharedEchoes$State;", true)
  | 1 => ("SharedEchoes", "trial", "LSharedEchoes$State;", true)
  | 2 => ("SharedEchoes", "history", "LSharedEchoes$History;", true)
  | 3 => ("SharedEchoes", "text", "LSharedEchoes$Text;", true)
  | 4 => ("SharedEchoes", "order", "LSharedEchoes$Order;", true)
  | _ => ("SharedEchoes", "found", "LSharedEchoes$Fault;", true)
def tyX8 : Nat → FieldType := fun k => match k with
  | 0 => .object "SharedEchoes$State"
  | 1 => .object "SharedEchoes$State"
  | 2 => .object "SharedEchoes$History"
  | 3 => .object "SharedEchoes$Text"
  | 4 => .object "SharedEchoes$Order"
  | _ => .object "SharedEchoes$Fault"
theorem nmX8 : ∀ a, a < 6 → ∀ b, b < 6 → a ≠ b → (TX8 a).2.1 ≠ (TX8 b).2.1 := by decide +kernel
theorem tyX8_ok : ∀ k, k < 6 → parseFieldDescriptor (TX8 k).2.2.1 = some (tyX8 k) := by decide +kernel
abbrev cX8_init : ByteArray := prog_1_method_1_code
def yX8_init : MethodName := ⟨RX8, "<init>", "()V"⟩
abbrev cX8_sample : ByteArray := prog_1_method_2_code
def yX8_sample : MethodName := ⟨RX8, "sample", "(I)I"⟩
abbrev cX8_silence : ByteArray := prog_1_method_3_code
def yX8_silence : MethodName := ⟨RX8, "silence", "(I)I"⟩
abbrev cX8_tap : ByteArray := prog_1_method_4_code
def yX8_tap : MethodName := ⟨RX8, "tap", "(III)I"⟩
abbrev cX8_off : ByteArray := prog_1_method_5_code
def yX8_off : MethodName := ⟨RX8, "off", "(I)I"⟩
abbrev cX8_feedback : ByteArray := prog_1_method_6_code
def yX8_feedback : MethodName := ⟨RX8, "feedback", "(II)I"⟩
abbrev cX8_steal : ByteArray := prog_1_method_7_code
def yX8_steal : MethodName := ⟨RX8, "steal", "(I)I"⟩
abbrev cX8_giveBack : ByteArray := prog_1_method_8_code
def yX8_giveBack : MethodName := ⟨RX8, "giveBack", "(I)I"⟩
abbrev cX8_set : ByteArray := prog_1_method_9_code
def yX8_set : MethodName := ⟨RX8, "set", "(II)I"⟩
abbrev cX8_reset : ByteArray := prog_1_method_10_code
def yX8_reset : MethodName := ⟨RX8, "reset", "()I"⟩
abbrev cX8_tapOf : ByteArray := prog_1_method_11_code
def yX8_tapOf : MethodName := ⟨RX8, "tapOf", "(II)I"⟩
abbrev cX8_wordOf : ByteArray := prog_1_method_12_code
def yX8_wordOf : MethodName := ⟨RX8, "wordOf", "(I)I"⟩
abbrev cX8_outputOf : ByteArray := prog_1_method_13_code
def yX8_outputOf : MethodName := ⟨RX8, "outputOf", "(I)I"⟩
abbrev cX8_meter : ByteArray := prog_1_method_14_code
def yX8_meter : MethodName := ⟨RX8, "meter", "(I)I"⟩
abbrev cX8_echo : ByteArray := prog_1_method_15_code
def yX8_echo : MethodName := ⟨RX8, "echo", "(II)I"⟩
abbrev cX8_quietAfter : ByteArray := prog_1_method_16_code
def yX8_quietAfter : MethodName := ⟨RX8, "quietAfter", "(I)I"⟩
abbrev cX8_loudest : ByteArray := prog_1_method_17_code
def yX8_loudest : MethodName := ⟨RX8, "loudest", "()I"⟩
abbrev cX8_safeGain : ByteArray := prog_1_method_18_code
def yX8_safeGain : MethodName := ⟨RX8, "safeGain", "(II)I"⟩
abbrev cX8_count : ByteArray := prog_1_method_19_code
def yX8_count : MethodName := ⟨RX8, "count", "(I)I"⟩
abbrev cX8_undo : ByteArray := prog_1_method_20_code
def yX8_undo : MethodName := ⟨RX8, "undo", "()I"⟩
abbrev cX8_type : ByteArray := prog_1_method_21_code
def yX8_type : MethodName := ⟨RX8, "type", "(I)I"⟩
abbrev cX8_clearText : ByteArray := prog_1_method_22_code
def yX8_clearText : MethodName := ⟨RX8, "clearText", "()I"⟩
abbrev cX8_fault : ByteArray := prog_1_method_23_code
def yX8_fault : MethodName := ⟨RX8, "fault", "(I)I"⟩
abbrev cX8_play : ByteArray := prog_1_method_24_code
def yX8_play : MethodName := ⟨RX8, "play", "()I"⟩
abbrev cX8_isWithin : ByteArray := prog_1_method_25_code
def yX8_isWithin : MethodName := ⟨RX8, "isWithin", "(III)Z"⟩
abbrev cX8_isTap : ByteArray := prog_1_method_26_code
def yX8_isTap : MethodName := ⟨RX8, "isTap", "(I)Z"⟩
abbrev cX8_isSample : ByteArray := prog_1_method_27_code
def yX8_isSample : MethodName := ⟨RX8, "isSample", "(I)Z"⟩
abbrev cX8_isSetting : ByteArray := prog_1_method_28_code
def yX8_isSetting : MethodName := ⟨RX8, "isSetting", "(II)Z"⟩
abbrev cX8_sampleError : ByteArray := prog_1_method_29_code
def yX8_sampleError : MethodName := ⟨RX8, "sampleError", "(I)I"⟩
abbrev cX8_silenceError : ByteArray := prog_1_method_30_code
def yX8_silenceError : MethodName := ⟨RX8, "silenceError", "(I)I"⟩
abbrev cX8_tapError : ByteArray := prog_1_method_31_code
def yX8_tapError : MethodName := ⟨RX8, "tapError", "(III)I"⟩
abbrev cX8_feedbackError : ByteArray := prog_1_method_32_code
def yX8_feedbackError : MethodName := ⟨RX8, "feedbackError", "(II)I"⟩
abbrev cX8_stealError : ByteArray := prog_1_method_33_code
def yX8_stealError : MethodName := ⟨RX8, "stealError", "(II)I"⟩
abbrev cX8_giveBackError : ByteArray := prog_1_method_34_code
def yX8_giveBackError : MethodName := ⟨RX8, "giveBackError", "(II)I"⟩
abbrev cX8_thousandths : ByteArray := prog_1_method_35_code
def yX8_thousandths : MethodName := ⟨RX8, "thousandths", "(II)I"⟩
abbrev cX8_shaped : ByteArray := prog_1_method_36_code
def yX8_shaped : MethodName := ⟨RX8, "shaped", "(III)I"⟩
abbrev cX8_wouldBeQuiet : ByteArray := prog_1_method_37_code
def yX8_wouldBeQuiet : MethodName := ⟨RX8, "wouldBeQuiet", "(III)Z"⟩
abbrev cX8_tapsOn : ByteArray := prog_1_method_38_code
def yX8_tapsOn : MethodName := ⟨RX8, "tapsOn", "()I"⟩
abbrev cX8_tapsLost : ByteArray := prog_1_method_39_code
def yX8_tapsLost : MethodName := ⟨RX8, "tapsLost", "()I"⟩
abbrev cX8_findFault : ByteArray := prog_1_method_40_code
def yX8_findFault : MethodName := ⟨RX8, "findFault", "()V"⟩
abbrev cX8_orderError : ByteArray := prog_1_method_41_code
def yX8_orderError : MethodName := ⟨RX8, "orderError", "(I)I"⟩
abbrev cX8_wordsThatGo : ByteArray := prog_1_method_42_code
def yX8_wordsThatGo : MethodName := ⟨RX8, "wordsThatGo", "()I"⟩
abbrev cX8_doOrder : ByteArray := prog_1_method_43_code
def yX8_doOrder : MethodName := ⟨RX8, "doOrder", "()V"⟩
def RX9 : String := "SharedEchoesModel"
def TX9 : u_T := fun k => match k with
  | 0 => ("SharedEchoesModel", "s", "[I", true)
  | 1 => ("SharedEchoesModel", "sums", "[J", true)
  | 2 => ("SharedEchoesModel", "states", "I", false)
  | 3 => ("SharedEchoesModel", "text", "[C", true)
  | 4 => ("SharedEchoesModel", "typed", "I", false)
  | 5 => ("SharedEchoesModel", "reason", "I", false)
  | 6 => ("SharedEchoesModel", "cause", "I", false)
  | 7 => ("SharedEchoesModel", "at", "I", false)
  | _ => ("SharedEchoesModel", "told", "[I", true)
def tyX9 : Nat → FieldType := fun k => match k with
  | 0 => .array .int
  | 1 => .array .long
  | 2 => .int
  | 3 => .array .char
  | 4 => .int
  | 5 => .int
  | 6 => .int
  | 7 => .int
  | _ => .array .int
theorem nmX9 : ∀ a, a < 9 → ∀ b, b < 9 → a ≠ b → (TX9 a).2.1 ≠ (TX9 b).2.1 := by decide +kernel
theorem tyX9_ok : ∀ k, k < 9 → parseFieldDescriptor (TX9 k).2.2.1 = some (tyX9 k) := by decide +kernel
abbrev cX9_init : ByteArray := prog_11_method_1_code
def yX9_init : MethodName := ⟨RX9, "<init>", "()V"⟩
abbrev cX9_in : ByteArray := prog_11_method_2_code
def yX9_in : MethodName := ⟨RX9, "in", "(III)Z"⟩
abbrev cX9_amount : ByteArray := prog_11_method_3_code
def yX9_amount : MethodName := ⟨RX9, "amount", "(I)I"⟩
abbrev cX9_copies : ByteArray := prog_11_method_4_code
def yX9_copies : MethodName := ⟨RX9, "copies", "(II)V"⟩
abbrev cX9_keeps : ByteArray := prog_11_method_5_code
def yX9_keeps : MethodName := ⟨RX9, "keeps", "()V"⟩
abbrev cX9_acted : ByteArray := prog_11_method_6_code
def yX9_acted : MethodName := ⟨RX9, "acted", "(I)I"⟩
abbrev cX9_length : ByteArray := prog_11_method_7_code
def yX9_length : MethodName := ⟨RX9, "length", "(I)I"⟩
abbrev cX9_isLost : ByteArray := prog_11_method_8_code
def yX9_isLost : MethodName := ⟨RX9, "isLost", "(II)Z"⟩
abbrev cX9_reads : ByteArray := prog_11_method_9_code
def yX9_reads : MethodName := ⟨RX9, "reads", "(II)I"⟩
abbrev cX9_share : ByteArray := prog_11_method_10_code
def yX9_share : MethodName := ⟨RX9, "share", "(II)I"⟩
abbrev cX9_shaped : ByteArray := prog_11_method_11_code
def yX9_shaped : MethodName := ⟨RX9, "shaped", "(II)I"⟩
abbrev cX9_goes : ByteArray := prog_11_method_12_code
def yX9_goes : MethodName := ⟨RX9, "goes", "(II)I"⟩
abbrev cX9_greatestWord : ByteArray := prog_11_method_13_code
def yX9_greatestWord : MethodName := ⟨RX9, "greatestWord", "(I)I"⟩
abbrev cX9_doSample : ByteArray := prog_11_method_14_code
def yX9_doSample : MethodName := ⟨RX9, "doSample", "(I)I"⟩
abbrev cX9_doSilence : ByteArray := prog_11_method_15_code
def yX9_doSilence : MethodName := ⟨RX9, "doSilence", "(I)I"⟩
abbrev cX9_doTap : ByteArray := prog_11_method_16_code
def yX9_doTap : MethodName := ⟨RX9, "doTap", "(III)I"⟩
abbrev cX9_doFeedback : ByteArray := prog_11_method_17_code
def yX9_doFeedback : MethodName := ⟨RX9, "doFeedback", "(II)I"⟩
abbrev cX9_doSteal : ByteArray := prog_11_method_18_code
def yX9_doSteal : MethodName := ⟨RX9, "doSteal", "(I)I"⟩
abbrev cX9_doGive : ByteArray := prog_11_method_19_code
def yX9_doGive : MethodName := ⟨RX9, "doGive", "(I)I"⟩
abbrev cX9_sample : ByteArray := prog_11_method_20_code
def yX9_sample : MethodName := ⟨RX9, "sample", "(I)I"⟩
abbrev cX9_silence : ByteArray := prog_11_method_21_code
def yX9_silence : MethodName := ⟨RX9, "silence", "(I)I"⟩
abbrev cX9_tap : ByteArray := prog_11_method_22_code
def yX9_tap : MethodName := ⟨RX9, "tap", "(III)I"⟩
abbrev cX9_off : ByteArray := prog_11_method_23_code
def yX9_off : MethodName := ⟨RX9, "off", "(I)I"⟩
abbrev cX9_feedback : ByteArray := prog_11_method_24_code
def yX9_feedback : MethodName := ⟨RX9, "feedback", "(II)I"⟩
abbrev cX9_steal : ByteArray := prog_11_method_25_code
def yX9_steal : MethodName := ⟨RX9, "steal", "(I)I"⟩
abbrev cX9_giveBack : ByteArray := prog_11_method_26_code
def yX9_giveBack : MethodName := ⟨RX9, "giveBack", "(I)I"⟩
abbrev cX9_set : ByteArray := prog_11_method_27_code
def yX9_set : MethodName := ⟨RX9, "set", "(II)I"⟩
abbrev cX9_reset : ByteArray := prog_11_method_28_code
def yX9_reset : MethodName := ⟨RX9, "reset", "()I"⟩
abbrev cX9_tapOf : ByteArray := prog_11_method_29_code
def yX9_tapOf : MethodName := ⟨RX9, "tapOf", "(II)I"⟩
abbrev cX9_wordOf : ByteArray := prog_11_method_30_code
def yX9_wordOf : MethodName := ⟨RX9, "wordOf", "(I)I"⟩
abbrev cX9_outputOf : ByteArray := prog_11_method_31_code
def yX9_outputOf : MethodName := ⟨RX9, "outputOf", "(I)I"⟩
abbrev cX9_meter : ByteArray := prog_11_method_32_code
def yX9_meter : MethodName := ⟨RX9, "meter", "(I)I"⟩
abbrev cX9_silenced : ByteArray := prog_11_method_33_code
def yX9_silenced : MethodName := ⟨RX9, "silenced", "()V"⟩
abbrev cX9_echo : ByteArray := prog_11_method_34_code
def yX9_echo : MethodName := ⟨RX9, "echo", "(II)I"⟩
abbrev cX9_quietAfter : ByteArray := prog_11_method_35_code
def yX9_quietAfter : MethodName := ⟨RX9, "quietAfter", "(I)I"⟩
abbrev cX9_loudest : ByteArray := prog_11_method_36_code
def yX9_loudest : MethodName := ⟨RX9, "loudest", "()I"⟩
abbrev cX9_isQuiet : ByteArray := prog_11_method_37_code
def yX9_isQuiet : MethodName := ⟨RX9, "isQuiet", "(III)Z"⟩
abbrev cX9_safeGain : ByteArray := prog_11_method_38_code
def yX9_safeGain : MethodName := ⟨RX9, "safeGain", "(II)I"⟩
abbrev cX9_words : ByteArray := prog_11_method_39_code
def yX9_words : MethodName := ⟨RX9, "words", "(Z)I"⟩
abbrev cX9_taps : ByteArray := prog_11_method_40_code
def yX9_taps : MethodName := ⟨RX9, "taps", "(Z)I"⟩
abbrev cX9_count : ByteArray := prog_11_method_41_code
def yX9_count : MethodName := ⟨RX9, "count", "(I)I"⟩
abbrev cX9_undo : ByteArray := prog_11_method_42_code
def yX9_undo : MethodName := ⟨RX9, "undo", "()I"⟩
abbrev cX9_type : ByteArray := prog_11_method_43_code
def yX9_type : MethodName := ⟨RX9, "type", "(I)I"⟩
abbrev cX9_clearText : ByteArray := prog_11_method_44_code
def yX9_clearText : MethodName := ⟨RX9, "clearText", "()I"⟩
abbrev cX9_sign : ByteArray := prog_11_method_45_code
def yX9_sign : MethodName := ⟨RX9, "sign", "()I"⟩
abbrev cX9_number : ByteArray := prog_11_method_46_code
def yX9_number : MethodName := ⟨RX9, "number", "(IZ)Z"⟩
abbrev cX9_takes : ByteArray := prog_11_method_47_code
def yX9_takes : MethodName := ⟨RX9, "takes", "(I)Z"⟩
abbrev cX9_order : ByteArray := prog_11_method_48_code
def yX9_order : MethodName := ⟨RX9, "order", "(I)Z"⟩
abbrev cX9_does : ByteArray := prog_11_method_49_code
def yX9_does : MethodName := ⟨RX9, "does", "(I)I"⟩
abbrev cX9_goesOn : ByteArray := prog_11_method_50_code
def yX9_goesOn : MethodName := ⟨RX9, "goesOn", "()I"⟩
abbrev cX9_fault : ByteArray := prog_11_method_51_code
def yX9_fault : MethodName := ⟨RX9, "fault", "(I)I"⟩
abbrev cX9_play : ByteArray := prog_11_method_52_code
def yX9_play : MethodName := ⟨RX9, "play", "()I"⟩
def RJx145de : String := "java/io/Serializable"
def TJx145de : u_T := fun k => match k with
  | _ => ("", "", "", false)
def tyJx145de : Nat → FieldType := fun k => match k with
  | _ => .int
theorem nmJx145de : ∀ a, a < 0 → ∀ b, b < 0 → a ≠ b → (TJx145de a).2.1 ≠ (TJx145de b).2.1 := by decide +kernel
theorem tyJx145de_ok : ∀ k, k < 0 → parseFieldDescriptor (TJx145de k).2.2.1 = some (tyJx145de k) := by decide +kernel
def RJxb160c : String := "java/lang/Comparable"
def TJxb160c : u_T := fun k => match k with
  | _ => ("", "", "", false)
def tyJxb160c : Nat → FieldType := fun k => match k with
  | _ => .int
theorem nmJxb160c : ∀ a, a < 0 → ∀ b, b < 0 → a ≠ b → (TJxb160c a).2.1 ≠ (TJxb160c b).2.1 := by decide +kernel
theorem tyJxb160c_ok : ∀ k, k < 0 → parseFieldDescriptor (TJxb160c k).2.2.1 = some (tyJxb160c k) := by decide +kernel
def RJxf58ca : String := "java/lang/Float"
def TJxf58ca : u_T := fun k => match k with
  | _ => ("", "", "", false)
def tyJxf58ca : Nat → FieldType := fun k => match k with
  | _ => .int
theorem nmJxf58ca : ∀ a, a < 0 → ∀ b, b < 0 → a ≠ b → (TJxf58ca a).2.1 ≠ (TJxf58ca b).2.1 := by decide +kernel
theorem tyJxf58ca_ok : ∀ k, k < 0 → parseFieldDescriptor (TJxf58ca k).2.2.1 = some (tyJxf58ca k) := by decide +kernel
abbrev cJxf58ca_isNaN_12338 : ByteArray := prog_12_method_6_code
def yJxf58ca_isNaN_12338 : MethodName := ⟨RJxf58ca, "isNaN", "(F)Z"⟩
abbrev cJxf58ca_floatToIntBits_5c35a : ByteArray := prog_12_method_24_code
def yJxf58ca_floatToIntBits_5c35a : MethodName := ⟨RJxf58ca, "floatToIntBits", "(F)I"⟩
def RJ9 : String := "java/lang/Math"
def TJ9 : u_T := fun k => match k with
  | _ => ("", "", "", false)
def tyJ9 : Nat → FieldType := fun k => match k with
  | _ => .int
theorem nmJ9 : ∀ a, a < 0 → ∀ b, b < 0 → a ≠ b → (TJ9 a).2.1 ≠ (TJ9 b).2.1 := by decide +kernel
theorem tyJ9_ok : ∀ k, k < 0 → parseFieldDescriptor (TJ9 k).2.2.1 = some (tyJ9 k) := by decide +kernel
abbrev cJ9_floorMod_7cf53 : ByteArray := prog_13_method_50_code
def yJ9_floorMod_7cf53 : MethodName := ⟨RJ9, "floorMod", "(II)I"⟩
abbrev cJ9_abs_0f7a4 : ByteArray := prog_13_method_59_code
def yJ9_abs_0f7a4 : MethodName := ⟨RJ9, "abs", "(I)I"⟩
abbrev cJ9_max_7cf53 : ByteArray := prog_13_method_65_code
def yJ9_max_7cf53 : MethodName := ⟨RJ9, "max", "(II)I"⟩
abbrev cJ9_min_7cf53 : ByteArray := prog_13_method_69_code
def yJ9_min_7cf53 : MethodName := ⟨RJ9, "min", "(II)I"⟩
def RJxd2413 : String := "java/lang/Number"
def TJxd2413 : u_T := fun k => match k with
  | _ => ("", "", "", false)
def tyJxd2413 : Nat → FieldType := fun k => match k with
  | _ => .int
theorem nmJxd2413 : ∀ a, a < 0 → ∀ b, b < 0 → a ≠ b → (TJxd2413 a).2.1 ≠ (TJxd2413 b).2.1 := by decide +kernel
theorem tyJxd2413_ok : ∀ k, k < 0 → parseFieldDescriptor (TJxd2413 k).2.2.1 = some (tyJxd2413 k) := by decide +kernel
def RJ10 : String := "java/lang/System"
def TJ10 : u_T := fun k => match k with
  | _ => ("", "", "", false)
def tyJ10 : Nat → FieldType := fun k => match k with
  | _ => .int
theorem nmJ10 : ∀ a, a < 0 → ∀ b, b < 0 → a ≠ b → (TJ10 a).2.1 ≠ (TJ10 b).2.1 := by decide +kernel
theorem tyJ10_ok : ∀ k, k < 0 → parseFieldDescriptor (TJ10 k).2.2.1 = some (tyJ10 k) := by decide +kernel
def RJxfd54e : String := "java/lang/constant/Constable"
def TJxfd54e : u_T := fun k => match k with
  | _ => ("", "", "", false)
def tyJxfd54e : Nat → FieldType := fun k => match k with
  | _ => .int
theorem nmJxfd54e : ∀ a, a < 0 → ∀ b, b < 0 → a ≠ b → (TJxfd54e a).2.1 ≠ (TJxfd54e b).2.1 := by decide +kernel
theorem tyJxfd54e_ok : ∀ k, k < 0 → parseFieldDescriptor (TJxfd54e k).2.2.1 = some (tyJxfd54e k) := by decide +kernel
def RJx3cf43 : String := "java/lang/constant/ConstantDesc"
def TJx3cf43 : u_T := fun k => match k with
  | _ => ("", "", "", false)
def tyJx3cf43 : Nat → FieldType := fun k => match k with
  | _ => .int
theorem nmJx3cf43 : ∀ a, a < 0 → ∀ b, b < 0 → a ≠ b → (TJx3cf43 a).2.1 ≠ (TJx3cf43 b).2.1 := by decide +kernel
theorem tyJx3cf43_ok : ∀ k, k < 0 → parseFieldDescriptor (TJx3cf43 k).2.2.1 = some (tyJx3cf43 k) := by decide +kernel
def RJ7 : String := "java/util/Arrays"
def TJ7 : u_T := fun k => match k with
  | _ => ("", "", "", false)
def tyJ7 : Nat → FieldType := fun k => match k with
  | _ => .int
theorem nmJ7 : ∀ a, a < 0 → ∀ b, b < 0 → a ≠ b → (TJ7 a).2.1 ≠ (TJ7 b).2.1 := by decide +kernel
theorem tyJ7_ok : ∀ k, k < 0 → parseFieldDescriptor (TJ7 k).2.2.1 = some (tyJ7 k) := by decide +kernel
abbrev cJ7_fill_53178 : ByteArray := prog_16_method_103_code
def yJ7_fill_53178 : MethodName := ⟨RJ7, "fill", "([II)V"⟩
def RL : String := "SharedEchoesLaw"
abbrev cL_law : ByteArray := code
def yL_law : MethodName := ⟨RL, "law", "([I)Z"⟩
abbrev vwCl : List vw_C := [(RX0, TX0, 4), (RX1, TX1, 3), (RX2, TX2, 5), (RX3, TX3, 4), (RX4, TX4, 3), (RX5, TX5, 3), (RX6, TX6, 8), (RX7, TX7, 2), (RX8, TX8, 6), (RX9, TX9, 9)]
end
section
/-! decode rows (printed by TURN) -/
theorem dX0_init_0 : decode cX0_init 0 = .ok (.aload_n 0, 1) := by decide +kernel
theorem dX0_init_1 : decode cX0_init 1 = .ok (.invokespecial 1, 3) := by decide +kernel
theorem dX0_init_4 : decode cX0_init 4 = .ok (.return_, 1) := by decide +kernel
theorem dX0_put_0 : decode cX0_put 0 = .ok (.aload_n 0, 1) := by decide +kernel
theorem dX0_put_1 : decode cX0_put 1 = .ok (.iconst 1, 1) := by decide +kernel
theorem dX0_put_2 : decode cX0_put 2 = .ok (.putfield 7, 3) := by decide +kernel
theorem dX0_put_5 : decode cX0_put 5 = .ok (.aload_n 0, 1) := by decide +kernel
theorem dX0_put_6 : decode cX0_put 6 = .ok (.iload_n 1, 1) := by decide +kernel
theorem dX0_put_7 : decode cX0_put 7 = .ok (.putfield 13, 3) := by decide +kernel
theorem dX0_put_10 : decode cX0_put 10 = .ok (.aload_n 0, 1) := by decide +kernel
theorem dX0_put_11 : decode cX0_put 11 = .ok (.iload_n 2, 1) := by decide +kernel
theorem dX0_put_12 : decode cX0_put 12 = .ok (.putfield 17, 3) := by decide +kernel
theorem dX0_put_15 : decode cX0_put 15 = .ok (.aload_n 0, 1) := by decide +kernel
theorem dX0_put_16 : decode cX0_put 16 = .ok (.iload_n 3, 1) := by decide +kernel
theorem dX0_put_17 : decode cX0_put 17 = .ok (.putfield 20, 3) := by decide +kernel
theorem dX0_put_20 : decode cX0_put 20 = .ok (.return_, 1) := by decide +kernel
theorem dX1_init_0 : decode cX1_init 0 = .ok (.aload_n 0, 1) := by decide +kernel
theorem dX1_init_1 : decode cX1_init 1 = .ok (.invokespecial 3, 3) := by decide +kernel
theorem dX1_init_4 : decode cX1_init 4 = .ok (.aload_n 0, 1) := by decide +kernel
theorem dX1_init_5 : decode cX1_init 5 = .ok (.iconst 4, 1) := by decide +kernel
theorem dX1_init_6 : decode cX1_init 6 = .ok (.anewarray 9, 3) := by decide +kernel
theorem dX1_init_9 : decode cX1_init 9 = .ok (.putfield 11, 3) := by decide +kernel
theorem dX1_init_12 : decode cX1_init 12 = .ok (.iconst 0, 1) := by decide +kernel
theorem dX1_init_13 : decode cX1_init 13 = .ok (.istore_n 1, 1) := by decide +kernel
theorem dX1_init_14 : decode cX1_init 14 = .ok (.iload_n 1, 1) := by decide +kernel
theorem dX1_init_15 : decode cX1_init 15 = .ok (.iconst 4, 1) := by decide +kernel
theorem dX1_init_16 : decode cX1_init 16 = .ok (.if_icmp .ge 22, 3) := by decide +kernel
theorem dX1_init_19 : decode cX1_init 19 = .ok (.aload_n 0, 1) := by decide +kernel
theorem dX1_init_20 : decode cX1_init 20 = .ok (.getfield 11, 3) := by decide +kernel
theorem dX1_init_23 : decode cX1_init 23 = .ok (.iload_n 1, 1) := by decide +kernel
theorem dX1_init_24 : decode cX1_init 24 = .ok (.new 9, 3) := by decide +kernel
theorem dX1_init_27 : decode cX1_init 27 = .ok (.dup, 1) := by decide +kernel
theorem dX1_init_28 : decode cX1_init 28 = .ok (.invokespecial 17, 3) := by decide +kernel
theorem dX1_init_31 : decode cX1_init 31 = .ok (.aastore, 1) := by decide +kernel
theorem dX1_init_32 : decode cX1_init 32 = .ok (.iinc 1 1, 3) := by decide +kernel
theorem dX1_init_35 : decode cX1_init 35 = .ok (.goto (-21), 3) := by decide +kernel
theorem dX1_init_38 : decode cX1_init 38 = .ok (.return_, 1) := by decide +kernel
theorem dX1_stateAt_0 : decode cX1_stateAt 0 = .ok (.aload_n 0, 1) := by decide +kernel
theorem dX1_stateAt_1 : decode cX1_stateAt 1 = .ok (.getfield 11, 3) := by decide +kernel
theorem dX1_stateAt_4 : decode cX1_stateAt 4 = .ok (.aload_n 0, 1) := by decide +kernel
theorem dX1_stateAt_5 : decode cX1_stateAt 5 = .ok (.getfield 18, 3) := by decide +kernel
theorem dX1_stateAt_8 : decode cX1_stateAt 8 = .ok (.iload_n 1, 1) := by decide +kernel
theorem dX1_stateAt_9 : decode cX1_stateAt 9 = .ok (.iadd, 1) := by decide +kernel
theorem dX1_stateAt_10 : decode cX1_stateAt 10 = .ok (.iconst 4, 1) := by decide +kernel
theorem dX1_stateAt_11 : decode cX1_stateAt 11 = .ok (.invokestatic 22, 3) := by decide +kernel
theorem dX1_stateAt_14 : decode cX1_stateAt 14 = .ok (.aaload, 1) := by decide +kernel
theorem dX1_stateAt_15 : decode cX1_stateAt 15 = .ok (.areturn, 1) := by decide +kernel
theorem dX1_keep_0 : decode cX1_keep 0 = .ok (.aload_n 0, 1) := by decide +kernel
theorem dX1_keep_1 : decode cX1_keep 1 = .ok (.getfield 28, 3) := by decide +kernel
theorem dX1_keep_4 : decode cX1_keep 4 = .ok (.iconst 4, 1) := by decide +kernel
theorem dX1_keep_5 : decode cX1_keep 5 = .ok (.if_icmp .lt 20, 3) := by decide +kernel
theorem dX1_keep_8 : decode cX1_keep 8 = .ok (.aload_n 0, 1) := by decide +kernel
theorem dX1_keep_9 : decode cX1_keep 9 = .ok (.aload_n 0, 1) := by decide +kernel
theorem dX1_keep_10 : decode cX1_keep 10 = .ok (.getfield 18, 3) := by decide +kernel
theorem dX1_keep_13 : decode cX1_keep 13 = .ok (.iconst 1, 1) := by decide +kernel
theorem dX1_keep_14 : decode cX1_keep 14 = .ok (.iadd, 1) := by decide +kernel
theorem dX1_keep_15 : decode cX1_keep 15 = .ok (.iconst 4, 1) := by decide +kernel
theorem dX1_keep_16 : decode cX1_keep 16 = .ok (.irem, 1) := by decide +kernel
theorem dX1_keep_17 : decode cX1_keep 17 = .ok (.putfield 18, 3) := by decide +kernel
theorem dX1_keep_20 : decode cX1_keep 20 = .ok (.aload_n 0, 1) := by decide +kernel
theorem dX1_keep_21 : decode cX1_keep 21 = .ok (.iconst 3, 1) := by decide +kernel
theorem dX1_keep_22 : decode cX1_keep 22 = .ok (.putfield 28, 3) := by decide +kernel
theorem dX1_keep_25 : decode cX1_keep 25 = .ok (.aload_n 0, 1) := by decide +kernel
theorem dX1_keep_26 : decode cX1_keep 26 = .ok (.aload_n 0, 1) := by decide +kernel
theorem dX1_keep_27 : decode cX1_keep 27 = .ok (.getfield 28, 3) := by decide +kernel
theorem dX1_keep_30 : decode cX1_keep 30 = .ok (.invokevirtual 31, 3) := by decide +kernel
theorem dX1_keep_33 : decode cX1_keep 33 = .ok (.astore_n 2, 1) := by decide +kernel
theorem dX1_keep_34 : decode cX1_keep 34 = .ok (.aload_n 2, 1) := by decide +kernel
theorem dX1_keep_35 : decode cX1_keep 35 = .ok (.ifnull 18, 3) := by decide +kernel
theorem dX1_keep_38 : decode cX1_keep 38 = .ok (.aload_n 2, 1) := by decide +kernel
theorem dX1_keep_39 : decode cX1_keep 39 = .ok (.aload_n 1, 1) := by decide +kernel
theorem dX1_keep_40 : decode cX1_keep 40 = .ok (.invokevirtual 35, 3) := by decide +kernel
theorem dX1_keep_43 : decode cX1_keep 43 = .ok (.aload_n 0, 1) := by decide +kernel
theorem dX1_keep_44 : decode cX1_keep 44 = .ok (.dup, 1) := by decide +kernel
theorem dX1_keep_45 : decode cX1_keep 45 = .ok (.getfield 28, 3) := by decide +kernel
theorem dX1_keep_48 : decode cX1_keep 48 = .ok (.iconst 1, 1) := by decide +kernel
theorem dX1_keep_49 : decode cX1_keep 49 = .ok (.iadd, 1) := by decide +kernel
theorem dX1_keep_50 : decode cX1_keep 50 = .ok (.putfield 28, 3) := by decide +kernel
theorem dX1_keep_53 : decode cX1_keep 53 = .ok (.return_, 1) := by decide +kernel
theorem dX1_restoreInto_0 : decode cX1_restoreInto 0 = .ok (.aload_n 0, 1) := by decide +kernel
theorem dX1_restoreInto_1 : decode cX1_restoreInto 1 = .ok (.getfield 28, 3) := by decide +kernel
theorem dX1_restoreInto_4 : decode cX1_restoreInto 4 = .ok (.ifCond .gt 4, 3) := by decide +kernel
theorem dX1_restoreInto_7 : decode cX1_restoreInto 7 = .ok (.return_, 1) := by decide +kernel
theorem dX1_restoreInto_8 : decode cX1_restoreInto 8 = .ok (.aload_n 0, 1) := by decide +kernel
theorem dX1_restoreInto_9 : decode cX1_restoreInto 9 = .ok (.aload_n 0, 1) := by decide +kernel
theorem dX1_restoreInto_10 : decode cX1_restoreInto 10 = .ok (.getfield 28, 3) := by decide +kernel
theorem dX1_restoreInto_13 : decode cX1_restoreInto 13 = .ok (.iconst 1, 1) := by decide +kernel
theorem dX1_restoreInto_14 : decode cX1_restoreInto 14 = .ok (.isub, 1) := by decide +kernel
theorem dX1_restoreInto_15 : decode cX1_restoreInto 15 = .ok (.invokevirtual 31, 3) := by decide +kernel
theorem dX1_restoreInto_18 : decode cX1_restoreInto 18 = .ok (.astore_n 2, 1) := by decide +kernel
theorem dX1_restoreInto_19 : decode cX1_restoreInto 19 = .ok (.aload_n 2, 1) := by decide +kernel
theorem dX1_restoreInto_20 : decode cX1_restoreInto 20 = .ok (.ifnull 18, 3) := by decide +kernel
theorem dX1_restoreInto_23 : decode cX1_restoreInto 23 = .ok (.aload_n 1, 1) := by decide +kernel
theorem dX1_restoreInto_24 : decode cX1_restoreInto 24 = .ok (.aload_n 2, 1) := by decide +kernel
theorem dX1_restoreInto_25 : decode cX1_restoreInto 25 = .ok (.invokevirtual 35, 3) := by decide +kernel
theorem dX1_restoreInto_28 : decode cX1_restoreInto 28 = .ok (.aload_n 0, 1) := by decide +kernel
theorem dX1_restoreInto_29 : decode cX1_restoreInto 29 = .ok (.dup, 1) := by decide +kernel
theorem dX1_restoreInto_30 : decode cX1_restoreInto 30 = .ok (.getfield 28, 3) := by decide +kernel
theorem dX1_restoreInto_33 : decode cX1_restoreInto 33 = .ok (.iconst 1, 1) := by decide +kernel
theorem dX1_restoreInto_34 : decode cX1_restoreInto 34 = .ok (.isub, 1) := by decide +kernel
theorem dX1_restoreInto_35 : decode cX1_restoreInto 35 = .ok (.putfield 28, 3) := by decide +kernel
theorem dX1_restoreInto_38 : decode cX1_restoreInto 38 = .ok (.return_, 1) := by decide +kernel
theorem dX2_init_0 : decode cX2_init 0 = .ok (.aload_n 0, 1) := by decide +kernel
theorem dX2_init_1 : decode cX2_init 1 = .ok (.invokespecial 1, 3) := by decide +kernel
theorem dX2_init_4 : decode cX2_init 4 = .ok (.return_, 1) := by decide +kernel
theorem dX2_add_0 : decode cX2_add 0 = .ok (.iload_n 1, 1) := by decide +kernel
theorem dX2_add_1 : decode cX2_add 1 = .ok (.invokestatic 7, 3) := by decide +kernel
theorem dX2_add_4 : decode cX2_add 4 = .ok (.istore 4, 2) := by decide +kernel
theorem dX2_add_6 : decode cX2_add 6 = .ok (.aload_n 0, 1) := by decide +kernel
theorem dX2_add_7 : decode cX2_add 7 = .ok (.dup, 1) := by decide +kernel
theorem dX2_add_8 : decode cX2_add 8 = .ok (.getfield 13, 3) := by decide +kernel
theorem dX2_add_11 : decode cX2_add 11 = .ok (.iconst 1, 1) := by decide +kernel
theorem dX2_add_12 : decode cX2_add 12 = .ok (.iadd, 1) := by decide +kernel
theorem dX2_add_13 : decode cX2_add 13 = .ok (.putfield 13, 3) := by decide +kernel
theorem dX2_add_16 : decode cX2_add 16 = .ok (.aload_n 0, 1) := by decide +kernel
theorem dX2_add_17 : decode cX2_add 17 = .ok (.dup, 1) := by decide +kernel
theorem dX2_add_18 : decode cX2_add 18 = .ok (.getfield 19, 3) := by decide +kernel
theorem dX2_add_21 : decode cX2_add 21 = .ok (.iload 4, 2) := by decide +kernel
theorem dX2_add_23 : decode cX2_add 23 = .ok (.i2l, 1) := by decide +kernel
theorem dX2_add_24 : decode cX2_add 24 = .ok (.ladd, 1) := by decide +kernel
theorem dX2_add_25 : decode cX2_add 25 = .ok (.putfield 19, 3) := by decide +kernel
theorem dX2_add_28 : decode cX2_add 28 = .ok (.aload_n 0, 1) := by decide +kernel
theorem dX2_add_29 : decode cX2_add 29 = .ok (.aload_n 0, 1) := by decide +kernel
theorem dX2_add_30 : decode cX2_add 30 = .ok (.getfield 23, 3) := by decide +kernel
theorem dX2_add_33 : decode cX2_add 33 = .ok (.iload 4, 2) := by decide +kernel
theorem dX2_add_35 : decode cX2_add 35 = .ok (.invokestatic 26, 3) := by decide +kernel
theorem dX2_add_38 : decode cX2_add 38 = .ok (.putfield 23, 3) := by decide +kernel
theorem dX2_add_41 : decode cX2_add 41 = .ok (.aload_n 0, 1) := by decide +kernel
theorem dX2_add_42 : decode cX2_add 42 = .ok (.dup, 1) := by decide +kernel
theorem dX2_add_43 : decode cX2_add 43 = .ok (.getfield 30, 3) := by decide +kernel
theorem dX2_add_46 : decode cX2_add 46 = .ok (.iload_n 2, 1) := by decide +kernel
theorem dX2_add_47 : decode cX2_add 47 = .ok (.ifCond .eq 7, 3) := by decide +kernel
theorem dX2_add_50 : decode cX2_add 50 = .ok (.iconst 1, 1) := by decide +kernel
theorem dX2_add_51 : decode cX2_add 51 = .ok (.goto 4, 3) := by decide +kernel
theorem dX2_add_54 : decode cX2_add 54 = .ok (.iconst 0, 1) := by decide +kernel
theorem dX2_add_55 : decode cX2_add 55 = .ok (.iadd, 1) := by decide +kernel
theorem dX2_add_56 : decode cX2_add 56 = .ok (.putfield 30, 3) := by decide +kernel
theorem dX2_add_59 : decode cX2_add 59 = .ok (.aload_n 0, 1) := by decide +kernel
theorem dX2_add_60 : decode cX2_add 60 = .ok (.dup, 1) := by decide +kernel
theorem dX2_add_61 : decode cX2_add 61 = .ok (.getfield 33, 3) := by decide +kernel
theorem dX2_add_64 : decode cX2_add 64 = .ok (.iload_n 3, 1) := by decide +kernel
theorem dX2_add_65 : decode cX2_add 65 = .ok (.ifCond .eq 7, 3) := by decide +kernel
theorem dX2_add_68 : decode cX2_add 68 = .ok (.iconst 1, 1) := by decide +kernel
theorem dX2_add_69 : decode cX2_add 69 = .ok (.goto 4, 3) := by decide +kernel
theorem dX2_add_72 : decode cX2_add 72 = .ok (.iconst 0, 1) := by decide +kernel
theorem dX2_add_73 : decode cX2_add 73 = .ok (.iadd, 1) := by decide +kernel
theorem dX2_add_74 : decode cX2_add 74 = .ok (.putfield 33, 3) := by decide +kernel
theorem dX2_add_77 : decode cX2_add 77 = .ok (.return_, 1) := by decide +kernel
theorem dX2_startAnew_0 : decode cX2_startAnew 0 = .ok (.aload_n 0, 1) := by decide +kernel
theorem dX2_startAnew_1 : decode cX2_startAnew 1 = .ok (.iconst 0, 1) := by decide +kernel
theorem dX2_startAnew_2 : decode cX2_startAnew 2 = .ok (.putfield 13, 3) := by decide +kernel
theorem dX2_startAnew_5 : decode cX2_startAnew 5 = .ok (.aload_n 0, 1) := by decide +kernel
theorem dX2_startAnew_6 : decode cX2_startAnew 6 = .ok (.iconst 0, 1) := by decide +kernel
theorem dX2_startAnew_7 : decode cX2_startAnew 7 = .ok (.putfield 23, 3) := by decide +kernel
theorem dX2_startAnew_10 : decode cX2_startAnew 10 = .ok (.aload_n 0, 1) := by decide +kernel
theorem dX2_startAnew_11 : decode cX2_startAnew 11 = .ok (.iconst 0, 1) := by decide +kernel
theorem dX2_startAnew_12 : decode cX2_startAnew 12 = .ok (.putfield 30, 3) := by decide +kernel
theorem dX2_startAnew_15 : decode cX2_startAnew 15 = .ok (.aload_n 0, 1) := by decide +kernel
theorem dX2_startAnew_16 : decode cX2_startAnew 16 = .ok (.iconst 0, 1) := by decide +kernel
theorem dX2_startAnew_17 : decode cX2_startAnew 17 = .ok (.putfield 33, 3) := by decide +kernel
theorem dX2_startAnew_20 : decode cX2_startAnew 20 = .ok (.aload_n 0, 1) := by decide +kernel
theorem dX2_startAnew_21 : decode cX2_startAnew 21 = .ok (.lconst 0, 1) := by decide +kernel
theorem dX2_startAnew_22 : decode cX2_startAnew 22 = .ok (.putfield 19, 3) := by decide +kernel
theorem dX2_startAnew_25 : decode cX2_startAnew 25 = .ok (.return_, 1) := by decide +kernel
theorem dX2_bitsOfMean_0 : decode cX2_bitsOfMean 0 = .ok (.aload_n 0, 1) := by decide +kernel
theorem dX2_bitsOfMean_1 : decode cX2_bitsOfMean 1 = .ok (.getfield 13, 3) := by decide +kernel
theorem dX2_bitsOfMean_4 : decode cX2_bitsOfMean 4 = .ok (.ifCond .gt 5, 3) := by decide +kernel
theorem dX2_bitsOfMean_7 : decode cX2_bitsOfMean 7 = .ok (.iconst 0, 1) := by decide +kernel
theorem dX2_bitsOfMean_8 : decode cX2_bitsOfMean 8 = .ok (.ireturn, 1) := by decide +kernel
theorem dX2_bitsOfMean_9 : decode cX2_bitsOfMean 9 = .ok (.aload_n 0, 1) := by decide +kernel
theorem dX2_bitsOfMean_10 : decode cX2_bitsOfMean 10 = .ok (.getfield 19, 3) := by decide +kernel
theorem dX2_bitsOfMean_13 : decode cX2_bitsOfMean 13 = .ok (.l2f, 1) := by decide +kernel
theorem dX2_bitsOfMean_14 : decode cX2_bitsOfMean 14 = .ok (.aload_n 0, 1) := by decide +kernel
theorem dX2_bitsOfMean_15 : decode cX2_bitsOfMean 15 = .ok (.getfield 13, 3) := by decide +kernel
theorem dX2_bitsOfMean_18 : decode cX2_bitsOfMean 18 = .ok (.i2f, 1) := by decide +kernel
theorem dX2_bitsOfMean_19 : decode cX2_bitsOfMean 19 = .ok (.fdiv, 1) := by decide +kernel
theorem dX2_bitsOfMean_20 : decode cX2_bitsOfMean 20 = .ok (.invokestatic 36, 3) := by decide +kernel
theorem dX2_bitsOfMean_23 : decode cX2_bitsOfMean 23 = .ok (.ireturn, 1) := by decide +kernel
theorem dX2_bitsOf_0 : decode cX2_bitsOf 0 = .ok (.fload_n 0, 1) := by decide +kernel
theorem dX2_bitsOf_1 : decode cX2_bitsOf 1 = .ok (.fconst 0, 1) := by decide +kernel
theorem dX2_bitsOf_2 : decode cX2_bitsOf 2 = .ok (.fcmp .g, 1) := by decide +kernel
theorem dX2_bitsOf_3 : decode cX2_bitsOf 3 = .ok (.ifCond .gt 5, 3) := by decide +kernel
theorem dX2_bitsOf_6 : decode cX2_bitsOf 6 = .ok (.iconst 0, 1) := by decide +kernel
theorem dX2_bitsOf_7 : decode cX2_bitsOf 7 = .ok (.ireturn, 1) := by decide +kernel
theorem dX2_bitsOf_8 : decode cX2_bitsOf 8 = .ok (.fload_n 0, 1) := by decide +kernel
theorem dX2_bitsOf_9 : decode cX2_bitsOf 9 = .ok (.fstore_n 1, 1) := by decide +kernel
theorem dX2_bitsOf_10 : decode cX2_bitsOf 10 = .ok (.bipush 127, 2) := by decide +kernel
theorem dX2_bitsOf_12 : decode cX2_bitsOf 12 = .ok (.istore_n 2, 1) := by decide +kernel
theorem dX2_bitsOf_13 : decode cX2_bitsOf 13 = .ok (.iconst 0, 1) := by decide +kernel
theorem dX2_bitsOf_14 : decode cX2_bitsOf 14 = .ok (.istore_n 3, 1) := by decide +kernel
theorem dX2_bitsOf_15 : decode cX2_bitsOf 15 = .ok (.iload_n 3, 1) := by decide +kernel
theorem dX2_bitsOf_16 : decode cX2_bitsOf 16 = .ok (.sipush 200, 3) := by decide +kernel
theorem dX2_bitsOf_19 : decode cX2_bitsOf 19 = .ok (.if_icmp .ge 22, 3) := by decide +kernel
theorem dX2_bitsOf_22 : decode cX2_bitsOf 22 = .ok (.fload_n 1, 1) := by decide +kernel
theorem dX2_bitsOf_23 : decode cX2_bitsOf 23 = .ok (.fconst 2, 1) := by decide +kernel
theorem dX2_bitsOf_24 : decode cX2_bitsOf 24 = .ok (.fcmp .l, 1) := by decide +kernel
theorem dX2_bitsOf_25 : decode cX2_bitsOf 25 = .ok (.ifCond .lt 16, 3) := by decide +kernel
theorem dX2_bitsOf_28 : decode cX2_bitsOf 28 = .ok (.fload_n 1, 1) := by decide +kernel
theorem dX2_bitsOf_29 : decode cX2_bitsOf 29 = .ok (.fconst 2, 1) := by decide +kernel
theorem dX2_bitsOf_30 : decode cX2_bitsOf 30 = .ok (.fdiv, 1) := by decide +kernel
theorem dX2_bitsOf_31 : decode cX2_bitsOf 31 = .ok (.fstore_n 1, 1) := by decide +kernel
theorem dX2_bitsOf_32 : decode cX2_bitsOf 32 = .ok (.iinc 2 1, 3) := by decide +kernel
theorem dX2_bitsOf_35 : decode cX2_bitsOf 35 = .ok (.iinc 3 1, 3) := by decide +kernel
theorem dX2_bitsOf_38 : decode cX2_bitsOf 38 = .ok (.goto (-23), 3) := by decide +kernel
theorem dX2_bitsOf_41 : decode cX2_bitsOf 41 = .ok (.iconst 0, 1) := by decide +kernel
theorem dX2_bitsOf_42 : decode cX2_bitsOf 42 = .ok (.istore_n 3, 1) := by decide +kernel
theorem dX2_bitsOf_43 : decode cX2_bitsOf 43 = .ok (.iload_n 3, 1) := by decide +kernel
theorem dX2_bitsOf_44 : decode cX2_bitsOf 44 = .ok (.sipush 200, 3) := by decide +kernel
theorem dX2_bitsOf_47 : decode cX2_bitsOf 47 = .ok (.if_icmp .ge 22, 3) := by decide +kernel
theorem dX2_bitsOf_50 : decode cX2_bitsOf 50 = .ok (.fload_n 1, 1) := by decide +kernel
theorem dX2_bitsOf_51 : decode cX2_bitsOf 51 = .ok (.fconst 1, 1) := by decide +kernel
theorem dX2_bitsOf_52 : decode cX2_bitsOf 52 = .ok (.fcmp .g, 1) := by decide +kernel
theorem dX2_bitsOf_53 : decode cX2_bitsOf 53 = .ok (.ifCond .ge 16, 3) := by decide +kernel
theorem dX2_bitsOf_56 : decode cX2_bitsOf 56 = .ok (.fload_n 1, 1) := by decide +kernel
theorem dX2_bitsOf_57 : decode cX2_bitsOf 57 = .ok (.fconst 2, 1) := by decide +kernel
theorem dX2_bitsOf_58 : decode cX2_bitsOf 58 = .ok (.fmul, 1) := by decide +kernel
theorem dX2_bitsOf_59 : decode cX2_bitsOf 59 = .ok (.fstore_n 1, 1) := by decide +kernel
theorem dX2_bitsOf_60 : decode cX2_bitsOf 60 = .ok (.iinc 2 (-1), 3) := by decide +kernel
theorem dX2_bitsOf_63 : decode cX2_bitsOf 63 = .ok (.iinc 3 1, 3) := by decide +kernel
theorem dX2_bitsOf_66 : decode cX2_bitsOf 66 = .ok (.goto (-23), 3) := by decide +kernel
theorem dX2_bitsOf_69 : decode cX2_bitsOf 69 = .ok (.fload_n 1, 1) := by decide +kernel
theorem dX2_bitsOf_70 : decode cX2_bitsOf 70 = .ok (.fconst 1, 1) := by decide +kernel
theorem dX2_bitsOf_71 : decode cX2_bitsOf 71 = .ok (.fsub, 1) := by decide +kernel
theorem dX2_bitsOf_72 : decode cX2_bitsOf 72 = .ok (.ldc 40, 2) := by decide +kernel
theorem dX2_bitsOf_74 : decode cX2_bitsOf 74 = .ok (.fmul, 1) := by decide +kernel
theorem dX2_bitsOf_75 : decode cX2_bitsOf 75 = .ok (.f2i, 1) := by decide +kernel
theorem dX2_bitsOf_76 : decode cX2_bitsOf 76 = .ok (.istore_n 3, 1) := by decide +kernel
theorem dX2_bitsOf_77 : decode cX2_bitsOf 77 = .ok (.iload_n 2, 1) := by decide +kernel
theorem dX2_bitsOf_78 : decode cX2_bitsOf 78 = .ok (.ldc 41, 2) := by decide +kernel
theorem dX2_bitsOf_80 : decode cX2_bitsOf 80 = .ok (.imul, 1) := by decide +kernel
theorem dX2_bitsOf_81 : decode cX2_bitsOf 81 = .ok (.iload_n 3, 1) := by decide +kernel
theorem dX2_bitsOf_82 : decode cX2_bitsOf 82 = .ok (.iadd, 1) := by decide +kernel
theorem dX2_bitsOf_83 : decode cX2_bitsOf 83 = .ok (.ireturn, 1) := by decide +kernel
theorem dX2_takeOver_0 : decode cX2_takeOver 0 = .ok (.aload_n 0, 1) := by decide +kernel
theorem dX2_takeOver_1 : decode cX2_takeOver 1 = .ok (.aload_n 1, 1) := by decide +kernel
theorem dX2_takeOver_2 : decode cX2_takeOver 2 = .ok (.getfield 13, 3) := by decide +kernel
theorem dX2_takeOver_5 : decode cX2_takeOver 5 = .ok (.putfield 13, 3) := by decide +kernel
theorem dX2_takeOver_8 : decode cX2_takeOver 8 = .ok (.aload_n 0, 1) := by decide +kernel
theorem dX2_takeOver_9 : decode cX2_takeOver 9 = .ok (.aload_n 1, 1) := by decide +kernel
theorem dX2_takeOver_10 : decode cX2_takeOver 10 = .ok (.getfield 23, 3) := by decide +kernel
theorem dX2_takeOver_13 : decode cX2_takeOver 13 = .ok (.putfield 23, 3) := by decide +kernel
theorem dX2_takeOver_16 : decode cX2_takeOver 16 = .ok (.aload_n 0, 1) := by decide +kernel
theorem dX2_takeOver_17 : decode cX2_takeOver 17 = .ok (.aload_n 1, 1) := by decide +kernel
theorem dX2_takeOver_18 : decode cX2_takeOver 18 = .ok (.getfield 30, 3) := by decide +kernel
theorem dX2_takeOver_21 : decode cX2_takeOver 21 = .ok (.putfield 30, 3) := by decide +kernel
theorem dX2_takeOver_24 : decode cX2_takeOver 24 = .ok (.aload_n 0, 1) := by decide +kernel
theorem dX2_takeOver_25 : decode cX2_takeOver 25 = .ok (.aload_n 1, 1) := by decide +kernel
theorem dX2_takeOver_26 : decode cX2_takeOver 26 = .ok (.getfield 33, 3) := by decide +kernel
theorem dX2_takeOver_29 : decode cX2_takeOver 29 = .ok (.putfield 33, 3) := by decide +kernel
theorem dX2_takeOver_32 : decode cX2_takeOver 32 = .ok (.aload_n 0, 1) := by decide +kernel
theorem dX2_takeOver_33 : decode cX2_takeOver 33 = .ok (.aload_n 1, 1) := by decide +kernel
theorem dX2_takeOver_34 : decode cX2_takeOver 34 = .ok (.getfield 19, 3) := by decide +kernel
theorem dX2_takeOver_37 : decode cX2_takeOver 37 = .ok (.putfield 19, 3) := by decide +kernel
theorem dX2_takeOver_40 : decode cX2_takeOver 40 = .ok (.return_, 1) := by decide +kernel
theorem dX3_init_0 : decode cX3_init 0 = .ok (.aload_n 0, 1) := by decide +kernel
theorem dX3_init_1 : decode cX3_init 1 = .ok (.invokespecial 3, 3) := by decide +kernel
theorem dX3_init_4 : decode cX3_init 4 = .ok (.aload_n 0, 1) := by decide +kernel
theorem dX3_init_5 : decode cX3_init 5 = .ok (.iconst 3, 1) := by decide +kernel
theorem dX3_init_6 : decode cX3_init 6 = .ok (.newarray .int, 2) := by decide +kernel
theorem dX3_init_8 : decode cX3_init 8 = .ok (.putfield 9, 3) := by decide +kernel
theorem dX3_init_11 : decode cX3_init 11 = .ok (.return_, 1) := by decide +kernel
theorem dX3_numberAt_0 : decode cX3_numberAt 0 = .ok (.iload_n 1, 1) := by decide +kernel
theorem dX3_numberAt_1 : decode cX3_numberAt 1 = .ok (.ifCond .lt 17, 3) := by decide +kernel
theorem dX3_numberAt_4 : decode cX3_numberAt 4 = .ok (.iload_n 1, 1) := by decide +kernel
theorem dX3_numberAt_5 : decode cX3_numberAt 5 = .ok (.iconst 3, 1) := by decide +kernel
theorem dX3_numberAt_6 : decode cX3_numberAt 6 = .ok (.if_icmp .ge 12, 3) := by decide +kernel
theorem dX3_numberAt_9 : decode cX3_numberAt 9 = .ok (.aload_n 0, 1) := by decide +kernel
theorem dX3_numberAt_10 : decode cX3_numberAt 10 = .ok (.getfield 9, 3) := by decide +kernel
theorem dX3_numberAt_13 : decode cX3_numberAt 13 = .ok (.iload_n 1, 1) := by decide +kernel
theorem dX3_numberAt_14 : decode cX3_numberAt 14 = .ok (.iaload, 1) := by decide +kernel
theorem dX3_numberAt_15 : decode cX3_numberAt 15 = .ok (.goto 4, 3) := by decide +kernel
theorem dX3_numberAt_18 : decode cX3_numberAt 18 = .ok (.iconst 0, 1) := by decide +kernel
theorem dX3_numberAt_19 : decode cX3_numberAt 19 = .ok (.ireturn, 1) := by decide +kernel
theorem dX3_read_0 : decode cX3_read 0 = .ok (.aload_n 0, 1) := by decide +kernel
theorem dX3_read_1 : decode cX3_read 1 = .ok (.aload_n 1, 1) := by decide +kernel
theorem dX3_read_2 : decode cX3_read 2 = .ok (.iload_n 2, 1) := by decide +kernel
theorem dX3_read_3 : decode cX3_read 3 = .ok (.invokevirtual 15, 3) := by decide +kernel
theorem dX3_read_6 : decode cX3_read 6 = .ok (.putfield 21, 3) := by decide +kernel
theorem dX3_read_9 : decode cX3_read 9 = .ok (.aload_n 0, 1) := by decide +kernel
theorem dX3_read_10 : decode cX3_read 10 = .ok (.iload_n 2, 1) := by decide +kernel
theorem dX3_read_11 : decode cX3_read 11 = .ok (.putfield 25, 3) := by decide +kernel
theorem dX3_read_14 : decode cX3_read 14 = .ok (.aload_n 0, 1) := by decide +kernel
theorem dX3_read_15 : decode cX3_read 15 = .ok (.invokevirtual 28, 3) := by decide +kernel
theorem dX3_read_18 : decode cX3_read 18 = .ok (.istore_n 3, 1) := by decide +kernel
theorem dX3_read_19 : decode cX3_read 19 = .ok (.aload_n 0, 1) := by decide +kernel
theorem dX3_read_20 : decode cX3_read 20 = .ok (.iload_n 3, 1) := by decide +kernel
theorem dX3_read_21 : decode cX3_read 21 = .ok (.ifCond .le 7, 3) := by decide +kernel
theorem dX3_read_24 : decode cX3_read 24 = .ok (.iconst 1, 1) := by decide +kernel
theorem dX3_read_25 : decode cX3_read 25 = .ok (.goto 4, 3) := by decide +kernel
theorem dX3_read_28 : decode cX3_read 28 = .ok (.iconst 0, 1) := by decide +kernel
theorem dX3_read_29 : decode cX3_read 29 = .ok (.putfield 32, 3) := by decide +kernel
theorem dX3_read_32 : decode cX3_read 32 = .ok (.aload_n 0, 1) := by decide +kernel
theorem dX3_read_33 : decode cX3_read 33 = .ok (.getfield 32, 3) := by decide +kernel
theorem dX3_read_36 : decode cX3_read 36 = .ok (.ifCond .eq 13, 3) := by decide +kernel
theorem dX3_read_39 : decode cX3_read 39 = .ok (.aload_n 0, 1) := by decide +kernel
theorem dX3_read_40 : decode cX3_read 40 = .ok (.dup, 1) := by decide +kernel
theorem dX3_read_41 : decode cX3_read 41 = .ok (.getfield 25, 3) := by decide +kernel
theorem dX3_read_44 : decode cX3_read 44 = .ok (.iconst 1, 1) := by decide +kernel
theorem dX3_read_45 : decode cX3_read 45 = .ok (.iadd, 1) := by decide +kernel
theorem dX3_read_46 : decode cX3_read 46 = .ok (.putfield 25, 3) := by decide +kernel
theorem dX3_read_49 : decode cX3_read 49 = .ok (.iconst 0, 1) := by decide +kernel
theorem dX3_read_50 : decode cX3_read 50 = .ok (.istore 4, 2) := by decide +kernel
theorem dX3_read_52 : decode cX3_read 52 = .ok (.iload 4, 2) := by decide +kernel
theorem dX3_read_54 : decode cX3_read 54 = .ok (.iload_n 3, 1) := by decide +kernel
theorem dX3_read_55 : decode cX3_read 55 = .ok (.if_icmp .ge 90, 3) := by decide +kernel
theorem dX3_read_58 : decode cX3_read 58 = .ok (.aload_n 0, 1) := by decide +kernel
theorem dX3_read_59 : decode cX3_read 59 = .ok (.getfield 32, 3) := by decide +kernel
theorem dX3_read_62 : decode cX3_read 62 = .ok (.ifCond .eq 83, 3) := by decide +kernel
theorem dX3_read_65 : decode cX3_read 65 = .ok (.iload 4, 2) := by decide +kernel
theorem dX3_read_67 : decode cX3_read 67 = .ok (.iload_n 3, 1) := by decide +kernel
theorem dX3_read_68 : decode cX3_read 68 = .ok (.iconst 1, 1) := by decide +kernel
theorem dX3_read_69 : decode cX3_read 69 = .ok (.isub, 1) := by decide +kernel
theorem dX3_read_70 : decode cX3_read 70 = .ok (.if_icmp .ne 7, 3) := by decide +kernel
theorem dX3_read_73 : decode cX3_read 73 = .ok (.iconst 1, 1) := by decide +kernel
theorem dX3_read_74 : decode cX3_read 74 = .ok (.goto 4, 3) := by decide +kernel
theorem dX3_read_77 : decode cX3_read 77 = .ok (.iconst 0, 1) := by decide +kernel
theorem dX3_read_78 : decode cX3_read 78 = .ok (.istore 5, 2) := by decide +kernel
theorem dX3_read_80 : decode cX3_read 80 = .ok (.aload_n 0, 1) := by decide +kernel
theorem dX3_read_81 : decode cX3_read 81 = .ok (.aload_n 1, 1) := by decide +kernel
theorem dX3_read_82 : decode cX3_read 82 = .ok (.iload 4, 2) := by decide +kernel
theorem dX3_read_84 : decode cX3_read 84 = .ok (.iload 5, 2) := by decide +kernel
theorem dX3_read_86 : decode cX3_read 86 = .ok (.ifCond .eq 25, 3) := by decide +kernel
theorem dX3_read_89 : decode cX3_read 89 = .ok (.aload_n 0, 1) := by decide +kernel
theorem dX3_read_90 : decode cX3_read 90 = .ok (.getfield 21, 3) := by decide +kernel
theorem dX3_read_93 : decode cX3_read 93 = .ok (.bipush 115, 2) := by decide +kernel
theorem dX3_read_95 : decode cX3_read 95 = .ok (.if_icmp .eq 12, 3) := by decide +kernel
theorem dX3_read_98 : decode cX3_read 98 = .ok (.aload_n 0, 1) := by decide +kernel
theorem dX3_read_99 : decode cX3_read 99 = .ok (.getfield 21, 3) := by decide +kernel
theorem dX3_read_102 : decode cX3_read 102 = .ok (.bipush 116, 2) := by decide +kernel
theorem dX3_read_104 : decode cX3_read 104 = .ok (.if_icmp .ne 7, 3) := by decide +kernel
theorem dX3_read_107 : decode cX3_read 107 = .ok (.iconst 1, 1) := by decide +kernel
theorem dX3_read_108 : decode cX3_read 108 = .ok (.goto 4, 3) := by decide +kernel
theorem dX3_read_111 : decode cX3_read 111 = .ok (.iconst 0, 1) := by decide +kernel
theorem dX3_read_112 : decode cX3_read 112 = .ok (.invokevirtual 36, 3) := by decide +kernel
theorem dX3_read_115 : decode cX3_read 115 = .ok (.aload_n 0, 1) := by decide +kernel
theorem dX3_read_116 : decode cX3_read 116 = .ok (.getfield 32, 3) := by decide +kernel
theorem dX3_read_119 : decode cX3_read 119 = .ok (.ifCond .eq 20, 3) := by decide +kernel
theorem dX3_read_122 : decode cX3_read 122 = .ok (.aload_n 0, 1) := by decide +kernel
theorem dX3_read_123 : decode cX3_read 123 = .ok (.aload_n 1, 1) := by decide +kernel
theorem dX3_read_124 : decode cX3_read 124 = .ok (.iload 5, 2) := by decide +kernel
theorem dX3_read_126 : decode cX3_read 126 = .ok (.ifCond .eq 8, 3) := by decide +kernel
theorem dX3_read_129 : decode cX3_read 129 = .ok (.bipush 59, 2) := by decide +kernel
theorem dX3_read_131 : decode cX3_read 131 = .ok (.goto 5, 3) := by decide +kernel
theorem dX3_read_134 : decode cX3_read 134 = .ok (.bipush 44, 2) := by decide +kernel
theorem dX3_read_136 : decode cX3_read 136 = .ok (.invokevirtual 40, 3) := by decide +kernel
theorem dX3_read_139 : decode cX3_read 139 = .ok (.iinc 4 1, 3) := by decide +kernel
theorem dX3_read_142 : decode cX3_read 142 = .ok (.goto (-90), 3) := by decide +kernel
theorem dX3_read_145 : decode cX3_read 145 = .ok (.return_, 1) := by decide +kernel
theorem dX3_numbersOfKind_0 : decode cX3_numbersOfKind 0 = .ok (.aload_n 0, 1) := by decide +kernel
theorem dX3_numbersOfKind_1 : decode cX3_numbersOfKind 1 = .ok (.getfield 21, 3) := by decide +kernel
theorem dX3_numbersOfKind_4 : decode cX3_numbersOfKind 4 = .ok (.lookupswitch 66 #[(102, 62), (103, 60), (107, 60), (115, 60), (116, 64), (122, 60)], 60) := by decide +kernel
theorem dX3_numbersOfKind_64 : decode cX3_numbersOfKind 64 = .ok (.iconst 1, 1) := by decide +kernel
theorem dX3_numbersOfKind_65 : decode cX3_numbersOfKind 65 = .ok (.ireturn, 1) := by decide +kernel
theorem dX3_numbersOfKind_66 : decode cX3_numbersOfKind 66 = .ok (.iconst 2, 1) := by decide +kernel
theorem dX3_numbersOfKind_67 : decode cX3_numbersOfKind 67 = .ok (.ireturn, 1) := by decide +kernel
theorem dX3_numbersOfKind_68 : decode cX3_numbersOfKind 68 = .ok (.iconst 3, 1) := by decide +kernel
theorem dX3_numbersOfKind_69 : decode cX3_numbersOfKind 69 = .ok (.ireturn, 1) := by decide +kernel
theorem dX3_numbersOfKind_70 : decode cX3_numbersOfKind 70 = .ok (.iconst 0, 1) := by decide +kernel
theorem dX3_numbersOfKind_71 : decode cX3_numbersOfKind 71 = .ok (.ireturn, 1) := by decide +kernel
theorem dX3_readNumber_0 : decode cX3_readNumber 0 = .ok (.iload_n 3, 1) := by decide +kernel
theorem dX3_readNumber_1 : decode cX3_readNumber 1 = .ok (.ifCond .eq 20, 3) := by decide +kernel
theorem dX3_readNumber_4 : decode cX3_readNumber 4 = .ok (.aload_n 1, 1) := by decide +kernel
theorem dX3_readNumber_5 : decode cX3_readNumber 5 = .ok (.aload_n 0, 1) := by decide +kernel
theorem dX3_readNumber_6 : decode cX3_readNumber 6 = .ok (.getfield 25, 3) := by decide +kernel
theorem dX3_readNumber_9 : decode cX3_readNumber 9 = .ok (.invokevirtual 15, 3) := by decide +kernel
theorem dX3_readNumber_12 : decode cX3_readNumber 12 = .ok (.bipush 45, 2) := by decide +kernel
theorem dX3_readNumber_14 : decode cX3_readNumber 14 = .ok (.if_icmp .ne 7, 3) := by decide +kernel
theorem dX3_readNumber_17 : decode cX3_readNumber 17 = .ok (.iconst 1, 1) := by decide +kernel
theorem dX3_readNumber_18 : decode cX3_readNumber 18 = .ok (.goto 4, 3) := by decide +kernel
theorem dX3_readNumber_21 : decode cX3_readNumber 21 = .ok (.iconst 0, 1) := by decide +kernel
theorem dX3_readNumber_22 : decode cX3_readNumber 22 = .ok (.istore 4, 2) := by decide +kernel
theorem dX3_readNumber_24 : decode cX3_readNumber 24 = .ok (.iload 4, 2) := by decide +kernel
theorem dX3_readNumber_26 : decode cX3_readNumber 26 = .ok (.ifCond .eq 13, 3) := by decide +kernel
theorem dX3_readNumber_29 : decode cX3_readNumber 29 = .ok (.aload_n 0, 1) := by decide +kernel
theorem dX3_readNumber_30 : decode cX3_readNumber 30 = .ok (.dup, 1) := by decide +kernel
theorem dX3_readNumber_31 : decode cX3_readNumber 31 = .ok (.getfield 25, 3) := by decide +kernel
theorem dX3_readNumber_34 : decode cX3_readNumber 34 = .ok (.iconst 1, 1) := by decide +kernel
theorem dX3_readNumber_35 : decode cX3_readNumber 35 = .ok (.iadd, 1) := by decide +kernel
theorem dX3_readNumber_36 : decode cX3_readNumber 36 = .ok (.putfield 25, 3) := by decide +kernel
theorem dX3_readNumber_39 : decode cX3_readNumber 39 = .ok (.iconst 0, 1) := by decide +kernel
theorem dX3_readNumber_40 : decode cX3_readNumber 40 = .ok (.istore 5, 2) := by decide +kernel
theorem dX3_readNumber_42 : decode cX3_readNumber 42 = .ok (.iconst 0, 1) := by decide +kernel
theorem dX3_readNumber_43 : decode cX3_readNumber 43 = .ok (.istore 6, 2) := by decide +kernel
theorem dX3_readNumber_45 : decode cX3_readNumber 45 = .ok (.iload 6, 2) := by decide +kernel
theorem dX3_readNumber_47 : decode cX3_readNumber 47 = .ok (.iconst 5, 1) := by decide +kernel
theorem dX3_readNumber_48 : decode cX3_readNumber 48 = .ok (.if_icmp .ge 52, 3) := by decide +kernel
theorem dX3_readNumber_51 : decode cX3_readNumber 51 = .ok (.aload_n 1, 1) := by decide +kernel
theorem dX3_readNumber_52 : decode cX3_readNumber 52 = .ok (.aload_n 0, 1) := by decide +kernel
theorem dX3_readNumber_53 : decode cX3_readNumber 53 = .ok (.getfield 25, 3) := by decide +kernel
theorem dX3_readNumber_56 : decode cX3_readNumber 56 = .ok (.invokevirtual 15, 3) := by decide +kernel
theorem dX3_readNumber_59 : decode cX3_readNumber 59 = .ok (.invokestatic 44, 3) := by decide +kernel
theorem dX3_readNumber_62 : decode cX3_readNumber 62 = .ok (.ifCond .eq 38, 3) := by decide +kernel
theorem dX3_readNumber_65 : decode cX3_readNumber 65 = .ok (.iload 5, 2) := by decide +kernel
theorem dX3_readNumber_67 : decode cX3_readNumber 67 = .ok (.bipush 10, 2) := by decide +kernel
theorem dX3_readNumber_69 : decode cX3_readNumber 69 = .ok (.imul, 1) := by decide +kernel
theorem dX3_readNumber_70 : decode cX3_readNumber 70 = .ok (.aload_n 1, 1) := by decide +kernel
theorem dX3_readNumber_71 : decode cX3_readNumber 71 = .ok (.aload_n 0, 1) := by decide +kernel
theorem dX3_readNumber_72 : decode cX3_readNumber 72 = .ok (.getfield 25, 3) := by decide +kernel
theorem dX3_readNumber_75 : decode cX3_readNumber 75 = .ok (.invokevirtual 15, 3) := by decide +kernel
theorem dX3_readNumber_78 : decode cX3_readNumber 78 = .ok (.iadd, 1) := by decide +kernel
theorem dX3_readNumber_79 : decode cX3_readNumber 79 = .ok (.bipush 48, 2) := by decide +kernel
theorem dX3_readNumber_81 : decode cX3_readNumber 81 = .ok (.isub, 1) := by decide +kernel
theorem dX3_readNumber_82 : decode cX3_readNumber 82 = .ok (.istore 5, 2) := by decide +kernel
theorem dX3_readNumber_84 : decode cX3_readNumber 84 = .ok (.iinc 6 1, 3) := by decide +kernel
theorem dX3_readNumber_87 : decode cX3_readNumber 87 = .ok (.aload_n 0, 1) := by decide +kernel
theorem dX3_readNumber_88 : decode cX3_readNumber 88 = .ok (.dup, 1) := by decide +kernel
theorem dX3_readNumber_89 : decode cX3_readNumber 89 = .ok (.getfield 25, 3) := by decide +kernel
theorem dX3_readNumber_92 : decode cX3_readNumber 92 = .ok (.iconst 1, 1) := by decide +kernel
theorem dX3_readNumber_93 : decode cX3_readNumber 93 = .ok (.iadd, 1) := by decide +kernel
theorem dX3_readNumber_94 : decode cX3_readNumber 94 = .ok (.putfield 25, 3) := by decide +kernel
theorem dX3_readNumber_97 : decode cX3_readNumber 97 = .ok (.goto (-52), 3) := by decide +kernel
theorem dX3_readNumber_100 : decode cX3_readNumber 100 = .ok (.aload_n 0, 1) := by decide +kernel
theorem dX3_readNumber_101 : decode cX3_readNumber 101 = .ok (.iload 6, 2) := by decide +kernel
theorem dX3_readNumber_103 : decode cX3_readNumber 103 = .ok (.ifCond .le 7, 3) := by decide +kernel
theorem dX3_readNumber_106 : decode cX3_readNumber 106 = .ok (.iconst 1, 1) := by decide +kernel
theorem dX3_readNumber_107 : decode cX3_readNumber 107 = .ok (.goto 4, 3) := by decide +kernel
theorem dX3_readNumber_110 : decode cX3_readNumber 110 = .ok (.iconst 0, 1) := by decide +kernel
theorem dX3_readNumber_111 : decode cX3_readNumber 111 = .ok (.putfield 32, 3) := by decide +kernel
theorem dX3_readNumber_114 : decode cX3_readNumber 114 = .ok (.iload_n 2, 1) := by decide +kernel
theorem dX3_readNumber_115 : decode cX3_readNumber 115 = .ok (.ifCond .lt 27, 3) := by decide +kernel
theorem dX3_readNumber_118 : decode cX3_readNumber 118 = .ok (.iload_n 2, 1) := by decide +kernel
theorem dX3_readNumber_119 : decode cX3_readNumber 119 = .ok (.iconst 3, 1) := by decide +kernel
theorem dX3_readNumber_120 : decode cX3_readNumber 120 = .ok (.if_icmp .ge 22, 3) := by decide +kernel
theorem dX3_readNumber_123 : decode cX3_readNumber 123 = .ok (.aload_n 0, 1) := by decide +kernel
theorem dX3_readNumber_124 : decode cX3_readNumber 124 = .ok (.getfield 9, 3) := by decide +kernel
theorem dX3_readNumber_127 : decode cX3_readNumber 127 = .ok (.iload_n 2, 1) := by decide +kernel
theorem dX3_readNumber_128 : decode cX3_readNumber 128 = .ok (.iload 4, 2) := by decide +kernel
theorem dX3_readNumber_130 : decode cX3_readNumber 130 = .ok (.ifCond .eq 9, 3) := by decide +kernel
theorem dX3_readNumber_133 : decode cX3_readNumber 133 = .ok (.iload 5, 2) := by decide +kernel
theorem dX3_readNumber_135 : decode cX3_readNumber 135 = .ok (.ineg, 1) := by decide +kernel
theorem dX3_readNumber_136 : decode cX3_readNumber 136 = .ok (.goto 5, 3) := by decide +kernel
theorem dX3_readNumber_139 : decode cX3_readNumber 139 = .ok (.iload 5, 2) := by decide +kernel
theorem dX3_readNumber_141 : decode cX3_readNumber 141 = .ok (.iastore, 1) := by decide +kernel
theorem dX3_readNumber_142 : decode cX3_readNumber 142 = .ok (.return_, 1) := by decide +kernel
theorem dX3_readSign_0 : decode cX3_readSign 0 = .ok (.aload_n 0, 1) := by decide +kernel
theorem dX3_readSign_1 : decode cX3_readSign 1 = .ok (.aload_n 1, 1) := by decide +kernel
theorem dX3_readSign_2 : decode cX3_readSign 2 = .ok (.aload_n 0, 1) := by decide +kernel
theorem dX3_readSign_3 : decode cX3_readSign 3 = .ok (.getfield 25, 3) := by decide +kernel
theorem dX3_readSign_6 : decode cX3_readSign 6 = .ok (.invokevirtual 15, 3) := by decide +kernel
theorem dX3_readSign_9 : decode cX3_readSign 9 = .ok (.iload_n 2, 1) := by decide +kernel
theorem dX3_readSign_10 : decode cX3_readSign 10 = .ok (.if_icmp .ne 7, 3) := by decide +kernel
theorem dX3_readSign_13 : decode cX3_readSign 13 = .ok (.iconst 1, 1) := by decide +kernel
theorem dX3_readSign_14 : decode cX3_readSign 14 = .ok (.goto 4, 3) := by decide +kernel
theorem dX3_readSign_17 : decode cX3_readSign 17 = .ok (.iconst 0, 1) := by decide +kernel
theorem dX3_readSign_18 : decode cX3_readSign 18 = .ok (.putfield 32, 3) := by decide +kernel
theorem dX3_readSign_21 : decode cX3_readSign 21 = .ok (.aload_n 0, 1) := by decide +kernel
theorem dX3_readSign_22 : decode cX3_readSign 22 = .ok (.getfield 32, 3) := by decide +kernel
theorem dX3_readSign_25 : decode cX3_readSign 25 = .ok (.ifCond .eq 13, 3) := by decide +kernel
theorem dX3_readSign_28 : decode cX3_readSign 28 = .ok (.aload_n 0, 1) := by decide +kernel
theorem dX3_readSign_29 : decode cX3_readSign 29 = .ok (.dup, 1) := by decide +kernel
theorem dX3_readSign_30 : decode cX3_readSign 30 = .ok (.getfield 25, 3) := by decide +kernel
theorem dX3_readSign_33 : decode cX3_readSign 33 = .ok (.iconst 1, 1) := by decide +kernel
theorem dX3_readSign_34 : decode cX3_readSign 34 = .ok (.iadd, 1) := by decide +kernel
theorem dX3_readSign_35 : decode cX3_readSign 35 = .ok (.putfield 25, 3) := by decide +kernel
theorem dX3_readSign_38 : decode cX3_readSign 38 = .ok (.return_, 1) := by decide +kernel
theorem dX3_isDigit_0 : decode cX3_isDigit 0 = .ok (.iload_n 0, 1) := by decide +kernel
theorem dX3_isDigit_1 : decode cX3_isDigit 1 = .ok (.bipush 48, 2) := by decide +kernel
theorem dX3_isDigit_3 : decode cX3_isDigit 3 = .ok (.if_icmp .lt 13, 3) := by decide +kernel
theorem dX3_isDigit_6 : decode cX3_isDigit 6 = .ok (.iload_n 0, 1) := by decide +kernel
theorem dX3_isDigit_7 : decode cX3_isDigit 7 = .ok (.bipush 57, 2) := by decide +kernel
theorem dX3_isDigit_9 : decode cX3_isDigit 9 = .ok (.if_icmp .gt 7, 3) := by decide +kernel
theorem dX3_isDigit_12 : decode cX3_isDigit 12 = .ok (.iconst 1, 1) := by decide +kernel
theorem dX3_isDigit_13 : decode cX3_isDigit 13 = .ok (.goto 4, 3) := by decide +kernel
theorem dX3_isDigit_16 : decode cX3_isDigit 16 = .ok (.iconst 0, 1) := by decide +kernel
theorem dX3_isDigit_17 : decode cX3_isDigit 17 = .ok (.ireturn, 1) := by decide +kernel
theorem dX4_init_0 : decode cX4_init 0 = .ok (.aload_n 0, 1) := by decide +kernel
theorem dX4_init_1 : decode cX4_init 1 = .ok (.invokespecial 3, 3) := by decide +kernel
theorem dX4_init_4 : decode cX4_init 4 = .ok (.aload_n 0, 1) := by decide +kernel
theorem dX4_init_5 : decode cX4_init 5 = .ok (.bipush 12, 2) := by decide +kernel
theorem dX4_init_7 : decode cX4_init 7 = .ok (.newarray .int, 2) := by decide +kernel
theorem dX4_init_9 : decode cX4_init 9 = .ok (.putfield 9, 3) := by decide +kernel
theorem dX4_init_12 : decode cX4_init 12 = .ok (.return_, 1) := by decide +kernel
theorem dX4_add_0 : decode cX4_add 0 = .ok (.aload_n 0, 1) := by decide +kernel
theorem dX4_add_1 : decode cX4_add 1 = .ok (.getfield 15, 3) := by decide +kernel
theorem dX4_add_4 : decode cX4_add 4 = .ok (.ifCond .lt 12, 3) := by decide +kernel
theorem dX4_add_7 : decode cX4_add 7 = .ok (.aload_n 0, 1) := by decide +kernel
theorem dX4_add_8 : decode cX4_add 8 = .ok (.getfield 15, 3) := by decide +kernel
theorem dX4_add_11 : decode cX4_add 11 = .ok (.bipush 12, 2) := by decide +kernel
theorem dX4_add_13 : decode cX4_add 13 = .ok (.if_icmp .lt 8, 3) := by decide +kernel
theorem dX4_add_16 : decode cX4_add 16 = .ok (.aload_n 0, 1) := by decide +kernel
theorem dX4_add_17 : decode cX4_add 17 = .ok (.iconst 0, 1) := by decide +kernel
theorem dX4_add_18 : decode cX4_add 18 = .ok (.putfield 15, 3) := by decide +kernel
theorem dX4_add_21 : decode cX4_add 21 = .ok (.aload_n 0, 1) := by decide +kernel
theorem dX4_add_22 : decode cX4_add 22 = .ok (.getfield 9, 3) := by decide +kernel
theorem dX4_add_25 : decode cX4_add 25 = .ok (.aload_n 0, 1) := by decide +kernel
theorem dX4_add_26 : decode cX4_add 26 = .ok (.getfield 15, 3) := by decide +kernel
theorem dX4_add_29 : decode cX4_add 29 = .ok (.iload_n 1, 1) := by decide +kernel
theorem dX4_add_30 : decode cX4_add 30 = .ok (.iastore, 1) := by decide +kernel
theorem dX4_add_31 : decode cX4_add 31 = .ok (.aload_n 0, 1) := by decide +kernel
theorem dX4_add_32 : decode cX4_add 32 = .ok (.dup, 1) := by decide +kernel
theorem dX4_add_33 : decode cX4_add 33 = .ok (.getfield 15, 3) := by decide +kernel
theorem dX4_add_36 : decode cX4_add 36 = .ok (.iconst 1, 1) := by decide +kernel
theorem dX4_add_37 : decode cX4_add 37 = .ok (.iadd, 1) := by decide +kernel
theorem dX4_add_38 : decode cX4_add 38 = .ok (.putfield 15, 3) := by decide +kernel
theorem dX4_add_41 : decode cX4_add 41 = .ok (.aload_n 0, 1) := by decide +kernel
theorem dX4_add_42 : decode cX4_add 42 = .ok (.aload_n 0, 1) := by decide +kernel
theorem dX4_add_43 : decode cX4_add 43 = .ok (.getfield 19, 3) := by decide +kernel
theorem dX4_add_46 : decode cX4_add 46 = .ok (.iconst 1, 1) := by decide +kernel
theorem dX4_add_47 : decode cX4_add 47 = .ok (.iadd, 1) := by decide +kernel
theorem dX4_add_48 : decode cX4_add 48 = .ok (.bipush 12, 2) := by decide +kernel
theorem dX4_add_50 : decode cX4_add 50 = .ok (.invokestatic 22, 3) := by decide +kernel
theorem dX4_add_53 : decode cX4_add 53 = .ok (.putfield 19, 3) := by decide +kernel
theorem dX4_add_56 : decode cX4_add 56 = .ok (.return_, 1) := by decide +kernel
theorem dX4_latest_0 : decode cX4_latest 0 = .ok (.iload_n 1, 1) := by decide +kernel
theorem dX4_latest_1 : decode cX4_latest 1 = .ok (.ifCond .lt 11, 3) := by decide +kernel
theorem dX4_latest_4 : decode cX4_latest 4 = .ok (.iload_n 1, 1) := by decide +kernel
theorem dX4_latest_5 : decode cX4_latest 5 = .ok (.aload_n 0, 1) := by decide +kernel
theorem dX4_latest_6 : decode cX4_latest 6 = .ok (.getfield 19, 3) := by decide +kernel
theorem dX4_latest_9 : decode cX4_latest 9 = .ok (.if_icmp .lt 5, 3) := by decide +kernel
theorem dX4_latest_12 : decode cX4_latest 12 = .ok (.iconst 0, 1) := by decide +kernel
theorem dX4_latest_13 : decode cX4_latest 13 = .ok (.ireturn, 1) := by decide +kernel
theorem dX4_latest_14 : decode cX4_latest 14 = .ok (.aload_n 0, 1) := by decide +kernel
theorem dX4_latest_15 : decode cX4_latest 15 = .ok (.getfield 9, 3) := by decide +kernel
theorem dX4_latest_18 : decode cX4_latest 18 = .ok (.aload_n 0, 1) := by decide +kernel
theorem dX4_latest_19 : decode cX4_latest 19 = .ok (.getfield 15, 3) := by decide +kernel
theorem dX4_latest_22 : decode cX4_latest 22 = .ok (.iconst 1, 1) := by decide +kernel
theorem dX4_latest_23 : decode cX4_latest 23 = .ok (.isub, 1) := by decide +kernel
theorem dX4_latest_24 : decode cX4_latest 24 = .ok (.iload_n 1, 1) := by decide +kernel
theorem dX4_latest_25 : decode cX4_latest 25 = .ok (.isub, 1) := by decide +kernel
theorem dX4_latest_26 : decode cX4_latest 26 = .ok (.bipush 12, 2) := by decide +kernel
theorem dX4_latest_28 : decode cX4_latest 28 = .ok (.invokestatic 28, 3) := by decide +kernel
theorem dX4_latest_31 : decode cX4_latest 31 = .ok (.iaload, 1) := by decide +kernel
theorem dX4_latest_32 : decode cX4_latest 32 = .ok (.ireturn, 1) := by decide +kernel
theorem dX4_takeOver_0 : decode cX4_takeOver 0 = .ok (.aload_n 1, 1) := by decide +kernel
theorem dX4_takeOver_1 : decode cX4_takeOver 1 = .ok (.getfield 9, 3) := by decide +kernel
theorem dX4_takeOver_4 : decode cX4_takeOver 4 = .ok (.iconst 0, 1) := by decide +kernel
theorem dX4_takeOver_5 : decode cX4_takeOver 5 = .ok (.aload_n 0, 1) := by decide +kernel
theorem dX4_takeOver_6 : decode cX4_takeOver 6 = .ok (.getfield 9, 3) := by decide +kernel
theorem dX4_takeOver_9 : decode cX4_takeOver 9 = .ok (.iconst 0, 1) := by decide +kernel
theorem dX4_takeOver_10 : decode cX4_takeOver 10 = .ok (.bipush 12, 2) := by decide +kernel
theorem dX4_takeOver_12 : decode cX4_takeOver 12 = .ok (.invokestatic 31, 3) := by decide +kernel
theorem dX4_takeOver_15 : decode cX4_takeOver 15 = .ok (.aload_n 0, 1) := by decide +kernel
theorem dX4_takeOver_16 : decode cX4_takeOver 16 = .ok (.aload_n 1, 1) := by decide +kernel
theorem dX4_takeOver_17 : decode cX4_takeOver 17 = .ok (.getfield 15, 3) := by decide +kernel
theorem dX4_takeOver_20 : decode cX4_takeOver 20 = .ok (.putfield 15, 3) := by decide +kernel
theorem dX4_takeOver_23 : decode cX4_takeOver 23 = .ok (.aload_n 0, 1) := by decide +kernel
theorem dX4_takeOver_24 : decode cX4_takeOver 24 = .ok (.aload_n 1, 1) := by decide +kernel
theorem dX4_takeOver_25 : decode cX4_takeOver 25 = .ok (.getfield 19, 3) := by decide +kernel
theorem dX4_takeOver_28 : decode cX4_takeOver 28 = .ok (.putfield 19, 3) := by decide +kernel
theorem dX4_takeOver_31 : decode cX4_takeOver 31 = .ok (.return_, 1) := by decide +kernel
theorem dX5_init_0 : decode cX5_init 0 = .ok (.aload_n 0, 1) := by decide +kernel
theorem dX5_init_1 : decode cX5_init 1 = .ok (.invokespecial 3, 3) := by decide +kernel
theorem dX5_init_4 : decode cX5_init 4 = .ok (.aload_n 0, 1) := by decide +kernel
theorem dX5_init_5 : decode cX5_init 5 = .ok (.bipush 64, 2) := by decide +kernel
theorem dX5_init_7 : decode cX5_init 7 = .ok (.newarray .int, 2) := by decide +kernel
theorem dX5_init_9 : decode cX5_init 9 = .ok (.putfield 9, 3) := by decide +kernel
theorem dX5_init_12 : decode cX5_init 12 = .ok (.aload_n 0, 1) := by decide +kernel
theorem dX5_init_13 : decode cX5_init 13 = .ok (.bipush 64, 2) := by decide +kernel
theorem dX5_init_15 : decode cX5_init 15 = .ok (.putfield 15, 3) := by decide +kernel
theorem dX5_init_18 : decode cX5_init 18 = .ok (.return_, 1) := by decide +kernel
theorem dX5_wordAt_0 : decode cX5_wordAt 0 = .ok (.iload_n 1, 1) := by decide +kernel
theorem dX5_wordAt_1 : decode cX5_wordAt 1 = .ok (.ifCond .lt 11, 3) := by decide +kernel
theorem dX5_wordAt_4 : decode cX5_wordAt 4 = .ok (.iload_n 1, 1) := by decide +kernel
theorem dX5_wordAt_5 : decode cX5_wordAt 5 = .ok (.aload_n 0, 1) := by decide +kernel
theorem dX5_wordAt_6 : decode cX5_wordAt 6 = .ok (.getfield 15, 3) := by decide +kernel
theorem dX5_wordAt_9 : decode cX5_wordAt 9 = .ok (.if_icmp .lt 5, 3) := by decide +kernel
theorem dX5_wordAt_12 : decode cX5_wordAt 12 = .ok (.iconst 0, 1) := by decide +kernel
theorem dX5_wordAt_13 : decode cX5_wordAt 13 = .ok (.ireturn, 1) := by decide +kernel
theorem dX5_wordAt_14 : decode cX5_wordAt 14 = .ok (.aload_n 0, 1) := by decide +kernel
theorem dX5_wordAt_15 : decode cX5_wordAt 15 = .ok (.getfield 9, 3) := by decide +kernel
theorem dX5_wordAt_18 : decode cX5_wordAt 18 = .ok (.aload_n 0, 1) := by decide +kernel
theorem dX5_wordAt_19 : decode cX5_wordAt 19 = .ok (.getfield 19, 3) := by decide +kernel
theorem dX5_wordAt_22 : decode cX5_wordAt 22 = .ok (.iload_n 1, 1) := by decide +kernel
theorem dX5_wordAt_23 : decode cX5_wordAt 23 = .ok (.iadd, 1) := by decide +kernel
theorem dX5_wordAt_24 : decode cX5_wordAt 24 = .ok (.bipush 63, 2) := by decide +kernel
theorem dX5_wordAt_26 : decode cX5_wordAt 26 = .ok (.iand, 1) := by decide +kernel
theorem dX5_wordAt_27 : decode cX5_wordAt 27 = .ok (.iaload, 1) := by decide +kernel
theorem dX5_wordAt_28 : decode cX5_wordAt 28 = .ok (.ireturn, 1) := by decide +kernel
theorem dX5_write_0 : decode cX5_write 0 = .ok (.aload_n 0, 1) := by decide +kernel
theorem dX5_write_1 : decode cX5_write 1 = .ok (.aload_n 0, 1) := by decide +kernel
theorem dX5_write_2 : decode cX5_write 2 = .ok (.getfield 19, 3) := by decide +kernel
theorem dX5_write_5 : decode cX5_write 5 = .ok (.iconst 1, 1) := by decide +kernel
theorem dX5_write_6 : decode cX5_write 6 = .ok (.isub, 1) := by decide +kernel
theorem dX5_write_7 : decode cX5_write 7 = .ok (.bipush 63, 2) := by decide +kernel
theorem dX5_write_9 : decode cX5_write 9 = .ok (.iand, 1) := by decide +kernel
theorem dX5_write_10 : decode cX5_write 10 = .ok (.putfield 19, 3) := by decide +kernel
theorem dX5_write_13 : decode cX5_write 13 = .ok (.aload_n 0, 1) := by decide +kernel
theorem dX5_write_14 : decode cX5_write 14 = .ok (.getfield 9, 3) := by decide +kernel
theorem dX5_write_17 : decode cX5_write 17 = .ok (.aload_n 0, 1) := by decide +kernel
theorem dX5_write_18 : decode cX5_write 18 = .ok (.getfield 19, 3) := by decide +kernel
theorem dX5_write_21 : decode cX5_write 21 = .ok (.bipush 63, 2) := by decide +kernel
theorem dX5_write_23 : decode cX5_write 23 = .ok (.iand, 1) := by decide +kernel
theorem dX5_write_24 : decode cX5_write 24 = .ok (.iload_n 1, 1) := by decide +kernel
theorem dX5_write_25 : decode cX5_write 25 = .ok (.iastore, 1) := by decide +kernel
theorem dX5_write_26 : decode cX5_write 26 = .ok (.return_, 1) := by decide +kernel
theorem dX5_shorten_0 : decode cX5_shorten 0 = .ok (.aload_n 0, 1) := by decide +kernel
theorem dX5_shorten_1 : decode cX5_shorten 1 = .ok (.aload_n 0, 1) := by decide +kernel
theorem dX5_shorten_2 : decode cX5_shorten 2 = .ok (.getfield 15, 3) := by decide +kernel
theorem dX5_shorten_5 : decode cX5_shorten 5 = .ok (.iload_n 1, 1) := by decide +kernel
theorem dX5_shorten_6 : decode cX5_shorten 6 = .ok (.isub, 1) := by decide +kernel
theorem dX5_shorten_7 : decode cX5_shorten 7 = .ok (.iconst 0, 1) := by decide +kernel
theorem dX5_shorten_8 : decode cX5_shorten 8 = .ok (.invokestatic 22, 3) := by decide +kernel
theorem dX5_shorten_11 : decode cX5_shorten 11 = .ok (.putfield 15, 3) := by decide +kernel
theorem dX5_shorten_14 : decode cX5_shorten 14 = .ok (.return_, 1) := by decide +kernel
theorem dX5_lengthen_0 : decode cX5_lengthen 0 = .ok (.aload_n 0, 1) := by decide +kernel
theorem dX5_lengthen_1 : decode cX5_lengthen 1 = .ok (.getfield 15, 3) := by decide +kernel
theorem dX5_lengthen_4 : decode cX5_lengthen 4 = .ok (.iload_n 1, 1) := by decide +kernel
theorem dX5_lengthen_5 : decode cX5_lengthen 5 = .ok (.iadd, 1) := by decide +kernel
theorem dX5_lengthen_6 : decode cX5_lengthen 6 = .ok (.bipush 64, 2) := by decide +kernel
theorem dX5_lengthen_8 : decode cX5_lengthen 8 = .ok (.invokestatic 28, 3) := by decide +kernel
theorem dX5_lengthen_11 : decode cX5_lengthen 11 = .ok (.istore_n 2, 1) := by decide +kernel
theorem dX5_lengthen_12 : decode cX5_lengthen 12 = .ok (.aload_n 0, 1) := by decide +kernel
theorem dX5_lengthen_13 : decode cX5_lengthen 13 = .ok (.getfield 15, 3) := by decide +kernel
theorem dX5_lengthen_16 : decode cX5_lengthen 16 = .ok (.istore_n 3, 1) := by decide +kernel
theorem dX5_lengthen_17 : decode cX5_lengthen 17 = .ok (.iload_n 3, 1) := by decide +kernel
theorem dX5_lengthen_18 : decode cX5_lengthen 18 = .ok (.iload_n 2, 1) := by decide +kernel
theorem dX5_lengthen_19 : decode cX5_lengthen 19 = .ok (.if_icmp .ge 24, 3) := by decide +kernel
theorem dX5_lengthen_22 : decode cX5_lengthen 22 = .ok (.aload_n 0, 1) := by decide +kernel
theorem dX5_lengthen_23 : decode cX5_lengthen 23 = .ok (.getfield 9, 3) := by decide +kernel
theorem dX5_lengthen_26 : decode cX5_lengthen 26 = .ok (.aload_n 0, 1) := by decide +kernel
theorem dX5_lengthen_27 : decode cX5_lengthen 27 = .ok (.getfield 19, 3) := by decide +kernel
theorem dX5_lengthen_30 : decode cX5_lengthen 30 = .ok (.iload_n 3, 1) := by decide +kernel
theorem dX5_lengthen_31 : decode cX5_lengthen 31 = .ok (.iadd, 1) := by decide +kernel
theorem dX5_lengthen_32 : decode cX5_lengthen 32 = .ok (.bipush 63, 2) := by decide +kernel
theorem dX5_lengthen_34 : decode cX5_lengthen 34 = .ok (.iand, 1) := by decide +kernel
theorem dX5_lengthen_35 : decode cX5_lengthen 35 = .ok (.iconst 0, 1) := by decide +kernel
theorem dX5_lengthen_36 : decode cX5_lengthen 36 = .ok (.iastore, 1) := by decide +kernel
theorem dX5_lengthen_37 : decode cX5_lengthen 37 = .ok (.iinc 3 1, 3) := by decide +kernel
theorem dX5_lengthen_40 : decode cX5_lengthen 40 = .ok (.goto (-23), 3) := by decide +kernel
theorem dX5_lengthen_43 : decode cX5_lengthen 43 = .ok (.aload_n 0, 1) := by decide +kernel
theorem dX5_lengthen_44 : decode cX5_lengthen 44 = .ok (.iload_n 2, 1) := by decide +kernel
theorem dX5_lengthen_45 : decode cX5_lengthen 45 = .ok (.putfield 15, 3) := by decide +kernel
theorem dX5_lengthen_48 : decode cX5_lengthen 48 = .ok (.return_, 1) := by decide +kernel
theorem dX5_fillWithZeros_0 : decode cX5_fillWithZeros 0 = .ok (.aload_n 0, 1) := by decide +kernel
theorem dX5_fillWithZeros_1 : decode cX5_fillWithZeros 1 = .ok (.getfield 9, 3) := by decide +kernel
theorem dX5_fillWithZeros_4 : decode cX5_fillWithZeros 4 = .ok (.iconst 0, 1) := by decide +kernel
theorem dX5_fillWithZeros_5 : decode cX5_fillWithZeros 5 = .ok (.invokestatic 31, 3) := by decide +kernel
theorem dX5_fillWithZeros_8 : decode cX5_fillWithZeros 8 = .ok (.return_, 1) := by decide +kernel
theorem dX5_wordsAbove_0 : decode cX5_wordsAbove 0 = .ok (.iconst 0, 1) := by decide +kernel
theorem dX5_wordsAbove_1 : decode cX5_wordsAbove 1 = .ok (.istore_n 2, 1) := by decide +kernel
theorem dX5_wordsAbove_2 : decode cX5_wordsAbove 2 = .ok (.iconst 0, 1) := by decide +kernel
theorem dX5_wordsAbove_3 : decode cX5_wordsAbove 3 = .ok (.istore_n 3, 1) := by decide +kernel
theorem dX5_wordsAbove_4 : decode cX5_wordsAbove 4 = .ok (.iload_n 3, 1) := by decide +kernel
theorem dX5_wordsAbove_5 : decode cX5_wordsAbove 5 = .ok (.aload_n 0, 1) := by decide +kernel
theorem dX5_wordsAbove_6 : decode cX5_wordsAbove 6 = .ok (.getfield 15, 3) := by decide +kernel
theorem dX5_wordsAbove_9 : decode cX5_wordsAbove 9 = .ok (.if_icmp .ge 29, 3) := by decide +kernel
theorem dX5_wordsAbove_12 : decode cX5_wordsAbove 12 = .ok (.iload_n 2, 1) := by decide +kernel
theorem dX5_wordsAbove_13 : decode cX5_wordsAbove 13 = .ok (.aload_n 0, 1) := by decide +kernel
theorem dX5_wordsAbove_14 : decode cX5_wordsAbove 14 = .ok (.iload_n 3, 1) := by decide +kernel
theorem dX5_wordsAbove_15 : decode cX5_wordsAbove 15 = .ok (.invokevirtual 37, 3) := by decide +kernel
theorem dX5_wordsAbove_18 : decode cX5_wordsAbove 18 = .ok (.invokestatic 41, 3) := by decide +kernel
theorem dX5_wordsAbove_21 : decode cX5_wordsAbove 21 = .ok (.iload_n 1, 1) := by decide +kernel
theorem dX5_wordsAbove_22 : decode cX5_wordsAbove 22 = .ok (.if_icmp .le 7, 3) := by decide +kernel
theorem dX5_wordsAbove_25 : decode cX5_wordsAbove 25 = .ok (.iconst 1, 1) := by decide +kernel
theorem dX5_wordsAbove_26 : decode cX5_wordsAbove 26 = .ok (.goto 4, 3) := by decide +kernel
theorem dX5_wordsAbove_29 : decode cX5_wordsAbove 29 = .ok (.iconst 0, 1) := by decide +kernel
theorem dX5_wordsAbove_30 : decode cX5_wordsAbove 30 = .ok (.iadd, 1) := by decide +kernel
theorem dX5_wordsAbove_31 : decode cX5_wordsAbove 31 = .ok (.istore_n 2, 1) := by decide +kernel
theorem dX5_wordsAbove_32 : decode cX5_wordsAbove 32 = .ok (.iinc 3 1, 3) := by decide +kernel
theorem dX5_wordsAbove_35 : decode cX5_wordsAbove 35 = .ok (.goto (-31), 3) := by decide +kernel
theorem dX5_wordsAbove_38 : decode cX5_wordsAbove 38 = .ok (.iload_n 2, 1) := by decide +kernel
theorem dX5_wordsAbove_39 : decode cX5_wordsAbove 39 = .ok (.ireturn, 1) := by decide +kernel
theorem dX5_sumOfAmounts_0 : decode cX5_sumOfAmounts 0 = .ok (.iconst 0, 1) := by decide +kernel
theorem dX5_sumOfAmounts_1 : decode cX5_sumOfAmounts 1 = .ok (.istore_n 1, 1) := by decide +kernel
theorem dX5_sumOfAmounts_2 : decode cX5_sumOfAmounts 2 = .ok (.iconst 0, 1) := by decide +kernel
theorem dX5_sumOfAmounts_3 : decode cX5_sumOfAmounts 3 = .ok (.istore_n 2, 1) := by decide +kernel
theorem dX5_sumOfAmounts_4 : decode cX5_sumOfAmounts 4 = .ok (.iload_n 2, 1) := by decide +kernel
theorem dX5_sumOfAmounts_5 : decode cX5_sumOfAmounts 5 = .ok (.aload_n 0, 1) := by decide +kernel
theorem dX5_sumOfAmounts_6 : decode cX5_sumOfAmounts 6 = .ok (.getfield 15, 3) := by decide +kernel
theorem dX5_sumOfAmounts_9 : decode cX5_sumOfAmounts 9 = .ok (.if_icmp .ge 20, 3) := by decide +kernel
theorem dX5_sumOfAmounts_12 : decode cX5_sumOfAmounts 12 = .ok (.iload_n 1, 1) := by decide +kernel
theorem dX5_sumOfAmounts_13 : decode cX5_sumOfAmounts 13 = .ok (.aload_n 0, 1) := by decide +kernel
theorem dX5_sumOfAmounts_14 : decode cX5_sumOfAmounts 14 = .ok (.iload_n 2, 1) := by decide +kernel
theorem dX5_sumOfAmounts_15 : decode cX5_sumOfAmounts 15 = .ok (.invokevirtual 37, 3) := by decide +kernel
theorem dX5_sumOfAmounts_18 : decode cX5_sumOfAmounts 18 = .ok (.invokestatic 41, 3) := by decide +kernel
theorem dX5_sumOfAmounts_21 : decode cX5_sumOfAmounts 21 = .ok (.iadd, 1) := by decide +kernel
theorem dX5_sumOfAmounts_22 : decode cX5_sumOfAmounts 22 = .ok (.istore_n 1, 1) := by decide +kernel
theorem dX5_sumOfAmounts_23 : decode cX5_sumOfAmounts 23 = .ok (.iinc 2 1, 3) := by decide +kernel
theorem dX5_sumOfAmounts_26 : decode cX5_sumOfAmounts 26 = .ok (.goto (-22), 3) := by decide +kernel
theorem dX5_sumOfAmounts_29 : decode cX5_sumOfAmounts 29 = .ok (.iload_n 1, 1) := by decide +kernel
theorem dX5_sumOfAmounts_30 : decode cX5_sumOfAmounts 30 = .ok (.ireturn, 1) := by decide +kernel
theorem dX5_takeOver_0 : decode cX5_takeOver 0 = .ok (.aload_n 1, 1) := by decide +kernel
theorem dX5_takeOver_1 : decode cX5_takeOver 1 = .ok (.getfield 9, 3) := by decide +kernel
theorem dX5_takeOver_4 : decode cX5_takeOver 4 = .ok (.iconst 0, 1) := by decide +kernel
theorem dX5_takeOver_5 : decode cX5_takeOver 5 = .ok (.aload_n 0, 1) := by decide +kernel
theorem dX5_takeOver_6 : decode cX5_takeOver 6 = .ok (.getfield 9, 3) := by decide +kernel
theorem dX5_takeOver_9 : decode cX5_takeOver 9 = .ok (.iconst 0, 1) := by decide +kernel
theorem dX5_takeOver_10 : decode cX5_takeOver 10 = .ok (.bipush 64, 2) := by decide +kernel
theorem dX5_takeOver_12 : decode cX5_takeOver 12 = .ok (.invokestatic 44, 3) := by decide +kernel
theorem dX5_takeOver_15 : decode cX5_takeOver 15 = .ok (.aload_n 0, 1) := by decide +kernel
theorem dX5_takeOver_16 : decode cX5_takeOver 16 = .ok (.aload_n 1, 1) := by decide +kernel
theorem dX5_takeOver_17 : decode cX5_takeOver 17 = .ok (.getfield 19, 3) := by decide +kernel
theorem dX5_takeOver_20 : decode cX5_takeOver 20 = .ok (.putfield 19, 3) := by decide +kernel
theorem dX5_takeOver_23 : decode cX5_takeOver 23 = .ok (.aload_n 0, 1) := by decide +kernel
theorem dX5_takeOver_24 : decode cX5_takeOver 24 = .ok (.aload_n 1, 1) := by decide +kernel
theorem dX5_takeOver_25 : decode cX5_takeOver 25 = .ok (.getfield 15, 3) := by decide +kernel
theorem dX5_takeOver_28 : decode cX5_takeOver 28 = .ok (.putfield 15, 3) := by decide +kernel
theorem dX5_takeOver_31 : decode cX5_takeOver 31 = .ok (.return_, 1) := by decide +kernel
theorem dX6_init_0 : decode cX6_init 0 = .ok (.aload_n 0, 1) := by decide +kernel
theorem dX6_init_1 : decode cX6_init 1 = .ok (.invokespecial 3, 3) := by decide +kernel
theorem dX6_init_4 : decode cX6_init 4 = .ok (.aload_n 0, 1) := by decide +kernel
theorem dX6_init_5 : decode cX6_init 5 = .ok (.new 9, 3) := by decide +kernel
theorem dX6_init_8 : decode cX6_init 8 = .ok (.dup, 1) := by decide +kernel
theorem dX6_init_9 : decode cX6_init 9 = .ok (.invokespecial 11, 3) := by decide +kernel
theorem dX6_init_12 : decode cX6_init 12 = .ok (.putfield 12, 3) := by decide +kernel
theorem dX6_init_15 : decode cX6_init 15 = .ok (.aload_n 0, 1) := by decide +kernel
theorem dX6_init_16 : decode cX6_init 16 = .ok (.new 18, 3) := by decide +kernel
theorem dX6_init_19 : decode cX6_init 19 = .ok (.dup, 1) := by decide +kernel
theorem dX6_init_20 : decode cX6_init 20 = .ok (.invokespecial 20, 3) := by decide +kernel
theorem dX6_init_23 : decode cX6_init 23 = .ok (.putfield 21, 3) := by decide +kernel
theorem dX6_init_26 : decode cX6_init 26 = .ok (.aload_n 0, 1) := by decide +kernel
theorem dX6_init_27 : decode cX6_init 27 = .ok (.new 25, 3) := by decide +kernel
theorem dX6_init_30 : decode cX6_init 30 = .ok (.dup, 1) := by decide +kernel
theorem dX6_init_31 : decode cX6_init 31 = .ok (.invokespecial 27, 3) := by decide +kernel
theorem dX6_init_34 : decode cX6_init 34 = .ok (.putfield 28, 3) := by decide +kernel
theorem dX6_init_37 : decode cX6_init 37 = .ok (.aload_n 0, 1) := by decide +kernel
theorem dX6_init_38 : decode cX6_init 38 = .ok (.iconst 5, 1) := by decide +kernel
theorem dX6_init_39 : decode cX6_init 39 = .ok (.newarray .int, 2) := by decide +kernel
theorem dX6_init_41 : decode cX6_init 41 = .ok (.putfield 32, 3) := by decide +kernel
theorem dX6_init_44 : decode cX6_init 44 = .ok (.aload_n 0, 1) := by decide +kernel
theorem dX6_init_45 : decode cX6_init 45 = .ok (.iconst 5, 1) := by decide +kernel
theorem dX6_init_46 : decode cX6_init 46 = .ok (.newarray .int, 2) := by decide +kernel
theorem dX6_init_48 : decode cX6_init 48 = .ok (.putfield 36, 3) := by decide +kernel
theorem dX6_init_51 : decode cX6_init 51 = .ok (.aload_n 0, 1) := by decide +kernel
theorem dX6_init_52 : decode cX6_init 52 = .ok (.sipush 16000, 3) := by decide +kernel
theorem dX6_init_55 : decode cX6_init 55 = .ok (.putfield 39, 3) := by decide +kernel
theorem dX6_init_58 : decode cX6_init 58 = .ok (.aload_n 0, 1) := by decide +kernel
theorem dX6_init_59 : decode cX6_init 59 = .ok (.getfield 32, 3) := by decide +kernel
theorem dX6_init_62 : decode cX6_init 62 = .ok (.iconst 4, 1) := by decide +kernel
theorem dX6_init_63 : decode cX6_init 63 = .ok (.bipush 16, 2) := by decide +kernel
theorem dX6_init_65 : decode cX6_init 65 = .ok (.iastore, 1) := by decide +kernel
theorem dX6_init_66 : decode cX6_init 66 = .ok (.return_, 1) := by decide +kernel
theorem dX6_isRow_0 : decode cX6_isRow 0 = .ok (.iload_n 0, 1) := by decide +kernel
theorem dX6_isRow_1 : decode cX6_isRow 1 = .ok (.ifCond .lt 12, 3) := by decide +kernel
theorem dX6_isRow_4 : decode cX6_isRow 4 = .ok (.iload_n 0, 1) := by decide +kernel
theorem dX6_isRow_5 : decode cX6_isRow 5 = .ok (.iconst 5, 1) := by decide +kernel
theorem dX6_isRow_6 : decode cX6_isRow 6 = .ok (.if_icmp .ge 7, 3) := by decide +kernel
theorem dX6_isRow_9 : decode cX6_isRow 9 = .ok (.iconst 1, 1) := by decide +kernel
theorem dX6_isRow_10 : decode cX6_isRow 10 = .ok (.goto 4, 3) := by decide +kernel
theorem dX6_isRow_13 : decode cX6_isRow 13 = .ok (.iconst 0, 1) := by decide +kernel
theorem dX6_isRow_14 : decode cX6_isRow 14 = .ok (.ireturn, 1) := by decide +kernel
theorem dX6_delayOf_0 : decode cX6_delayOf 0 = .ok (.iload_n 1, 1) := by decide +kernel
theorem dX6_delayOf_1 : decode cX6_delayOf 1 = .ok (.invokestatic 43, 3) := by decide +kernel
theorem dX6_delayOf_4 : decode cX6_delayOf 4 = .ok (.ifCond .eq 12, 3) := by decide +kernel
theorem dX6_delayOf_7 : decode cX6_delayOf 7 = .ok (.aload_n 0, 1) := by decide +kernel
theorem dX6_delayOf_8 : decode cX6_delayOf 8 = .ok (.getfield 32, 3) := by decide +kernel
theorem dX6_delayOf_11 : decode cX6_delayOf 11 = .ok (.iload_n 1, 1) := by decide +kernel
theorem dX6_delayOf_12 : decode cX6_delayOf 12 = .ok (.iaload, 1) := by decide +kernel
theorem dX6_delayOf_13 : decode cX6_delayOf 13 = .ok (.goto 4, 3) := by decide +kernel
theorem dX6_delayOf_16 : decode cX6_delayOf 16 = .ok (.iconst 0, 1) := by decide +kernel
theorem dX6_delayOf_17 : decode cX6_delayOf 17 = .ok (.ireturn, 1) := by decide +kernel
theorem dX6_gainOf_0 : decode cX6_gainOf 0 = .ok (.iload_n 1, 1) := by decide +kernel
theorem dX6_gainOf_1 : decode cX6_gainOf 1 = .ok (.invokestatic 43, 3) := by decide +kernel
theorem dX6_gainOf_4 : decode cX6_gainOf 4 = .ok (.ifCond .eq 12, 3) := by decide +kernel
theorem dX6_gainOf_7 : decode cX6_gainOf 7 = .ok (.aload_n 0, 1) := by decide +kernel
theorem dX6_gainOf_8 : decode cX6_gainOf 8 = .ok (.getfield 36, 3) := by decide +kernel
theorem dX6_gainOf_11 : decode cX6_gainOf 11 = .ok (.iload_n 1, 1) := by decide +kernel
theorem dX6_gainOf_12 : decode cX6_gainOf 12 = .ok (.iaload, 1) := by decide +kernel
theorem dX6_gainOf_13 : decode cX6_gainOf 13 = .ok (.goto 4, 3) := by decide +kernel
theorem dX6_gainOf_16 : decode cX6_gainOf 16 = .ok (.iconst 0, 1) := by decide +kernel
theorem dX6_gainOf_17 : decode cX6_gainOf 17 = .ok (.ireturn, 1) := by decide +kernel
theorem dX6_putRow_0 : decode cX6_putRow 0 = .ok (.iload_n 1, 1) := by decide +kernel
theorem dX6_putRow_1 : decode cX6_putRow 1 = .ok (.invokestatic 43, 3) := by decide +kernel
theorem dX6_putRow_4 : decode cX6_putRow 4 = .ok (.ifCond .eq 17, 3) := by decide +kernel
theorem dX6_putRow_7 : decode cX6_putRow 7 = .ok (.aload_n 0, 1) := by decide +kernel
theorem dX6_putRow_8 : decode cX6_putRow 8 = .ok (.getfield 32, 3) := by decide +kernel
theorem dX6_putRow_11 : decode cX6_putRow 11 = .ok (.iload_n 1, 1) := by decide +kernel
theorem dX6_putRow_12 : decode cX6_putRow 12 = .ok (.iload_n 2, 1) := by decide +kernel
theorem dX6_putRow_13 : decode cX6_putRow 13 = .ok (.iastore, 1) := by decide +kernel
theorem dX6_putRow_14 : decode cX6_putRow 14 = .ok (.aload_n 0, 1) := by decide +kernel
theorem dX6_putRow_15 : decode cX6_putRow 15 = .ok (.getfield 36, 3) := by decide +kernel
theorem dX6_putRow_18 : decode cX6_putRow 18 = .ok (.iload_n 1, 1) := by decide +kernel
theorem dX6_putRow_19 : decode cX6_putRow 19 = .ok (.iload_n 3, 1) := by decide +kernel
theorem dX6_putRow_20 : decode cX6_putRow 20 = .ok (.iastore, 1) := by decide +kernel
theorem dX6_putRow_21 : decode cX6_putRow 21 = .ok (.return_, 1) := by decide +kernel
theorem dX6_isOn_0 : decode cX6_isOn 0 = .ok (.aload_n 0, 1) := by decide +kernel
theorem dX6_isOn_1 : decode cX6_isOn 1 = .ok (.iload_n 1, 1) := by decide +kernel
theorem dX6_isOn_2 : decode cX6_isOn 2 = .ok (.invokevirtual 47, 3) := by decide +kernel
theorem dX6_isOn_5 : decode cX6_isOn 5 = .ok (.ifCond .eq 7, 3) := by decide +kernel
theorem dX6_isOn_8 : decode cX6_isOn 8 = .ok (.iconst 1, 1) := by decide +kernel
theorem dX6_isOn_9 : decode cX6_isOn 9 = .ok (.goto 4, 3) := by decide +kernel
theorem dX6_isOn_12 : decode cX6_isOn 12 = .ok (.iconst 0, 1) := by decide +kernel
theorem dX6_isOn_13 : decode cX6_isOn 13 = .ok (.ireturn, 1) := by decide +kernel
theorem dX6_isLost_0 : decode cX6_isLost 0 = .ok (.aload_n 0, 1) := by decide +kernel
theorem dX6_isLost_1 : decode cX6_isLost 1 = .ok (.iload_n 1, 1) := by decide +kernel
theorem dX6_isLost_2 : decode cX6_isLost 2 = .ok (.invokevirtual 47, 3) := by decide +kernel
theorem dX6_isLost_5 : decode cX6_isLost 5 = .ok (.aload_n 0, 1) := by decide +kernel
theorem dX6_isLost_6 : decode cX6_isLost 6 = .ok (.getfield 12, 3) := by decide +kernel
theorem dX6_isLost_9 : decode cX6_isLost 9 = .ok (.getfield 51, 3) := by decide +kernel
theorem dX6_isLost_12 : decode cX6_isLost 12 = .ok (.if_icmp .le 7, 3) := by decide +kernel
theorem dX6_isLost_15 : decode cX6_isLost 15 = .ok (.iconst 1, 1) := by decide +kernel
theorem dX6_isLost_16 : decode cX6_isLost 16 = .ok (.goto 4, 3) := by decide +kernel
theorem dX6_isLost_19 : decode cX6_isLost 19 = .ok (.iconst 0, 1) := by decide +kernel
theorem dX6_isLost_20 : decode cX6_isLost 20 = .ok (.ireturn, 1) := by decide +kernel
theorem dX6_readingOf_0 : decode cX6_readingOf 0 = .ok (.iload_n 1, 1) := by decide +kernel
theorem dX6_readingOf_1 : decode cX6_readingOf 1 = .ok (.invokestatic 43, 3) := by decide +kernel
theorem dX6_readingOf_4 : decode cX6_readingOf 4 = .ok (.ifCond .eq 21, 3) := by decide +kernel
theorem dX6_readingOf_7 : decode cX6_readingOf 7 = .ok (.aload_n 0, 1) := by decide +kernel
theorem dX6_readingOf_8 : decode cX6_readingOf 8 = .ok (.getfield 12, 3) := by decide +kernel
theorem dX6_readingOf_11 : decode cX6_readingOf 11 = .ok (.aload_n 0, 1) := by decide +kernel
theorem dX6_readingOf_12 : decode cX6_readingOf 12 = .ok (.getfield 32, 3) := by decide +kernel
theorem dX6_readingOf_15 : decode cX6_readingOf 15 = .ok (.iload_n 1, 1) := by decide +kernel
theorem dX6_readingOf_16 : decode cX6_readingOf 16 = .ok (.iaload, 1) := by decide +kernel
theorem dX6_readingOf_17 : decode cX6_readingOf 17 = .ok (.iconst 1, 1) := by decide +kernel
theorem dX6_readingOf_18 : decode cX6_readingOf 18 = .ok (.isub, 1) := by decide +kernel
theorem dX6_readingOf_19 : decode cX6_readingOf 19 = .ok (.invokevirtual 54, 3) := by decide +kernel
theorem dX6_readingOf_22 : decode cX6_readingOf 22 = .ok (.goto 4, 3) := by decide +kernel
theorem dX6_readingOf_25 : decode cX6_readingOf 25 = .ok (.iconst 0, 1) := by decide +kernel
theorem dX6_readingOf_26 : decode cX6_readingOf 26 = .ok (.ireturn, 1) := by decide +kernel
theorem dX6_shareOf_0 : decode cX6_shareOf 0 = .ok (.iload_n 1, 1) := by decide +kernel
theorem dX6_shareOf_1 : decode cX6_shareOf 1 = .ok (.invokestatic 43, 3) := by decide +kernel
theorem dX6_shareOf_4 : decode cX6_shareOf 4 = .ok (.ifCond .eq 20, 3) := by decide +kernel
theorem dX6_shareOf_7 : decode cX6_shareOf 7 = .ok (.aload_n 0, 1) := by decide +kernel
theorem dX6_shareOf_8 : decode cX6_shareOf 8 = .ok (.getfield 36, 3) := by decide +kernel
theorem dX6_shareOf_11 : decode cX6_shareOf 11 = .ok (.iload_n 1, 1) := by decide +kernel
theorem dX6_shareOf_12 : decode cX6_shareOf 12 = .ok (.iaload, 1) := by decide +kernel
theorem dX6_shareOf_13 : decode cX6_shareOf 13 = .ok (.aload_n 0, 1) := by decide +kernel
theorem dX6_shareOf_14 : decode cX6_shareOf 14 = .ok (.iload_n 1, 1) := by decide +kernel
theorem dX6_shareOf_15 : decode cX6_shareOf 15 = .ok (.invokevirtual 57, 3) := by decide +kernel
theorem dX6_shareOf_18 : decode cX6_shareOf 18 = .ok (.invokestatic 60, 3) := by decide +kernel
theorem dX6_shareOf_21 : decode cX6_shareOf 21 = .ok (.goto 4, 3) := by decide +kernel
theorem dX6_shareOf_24 : decode cX6_shareOf 24 = .ok (.iconst 0, 1) := by decide +kernel
theorem dX6_shareOf_25 : decode cX6_shareOf 25 = .ok (.ireturn, 1) := by decide +kernel
theorem dX6_letThrough_0 : decode cX6_letThrough 0 = .ok (.iload_n 1, 1) := by decide +kernel
theorem dX6_letThrough_1 : decode cX6_letThrough 1 = .ok (.istore_n 2, 1) := by decide +kernel
theorem dX6_letThrough_2 : decode cX6_letThrough 2 = .ok (.iconst 0, 1) := by decide +kernel
theorem dX6_letThrough_3 : decode cX6_letThrough 3 = .ok (.istore_n 3, 1) := by decide +kernel
theorem dX6_letThrough_4 : decode cX6_letThrough 4 = .ok (.iload_n 3, 1) := by decide +kernel
theorem dX6_letThrough_5 : decode cX6_letThrough 5 = .ok (.iconst 4, 1) := by decide +kernel
theorem dX6_letThrough_6 : decode cX6_letThrough 6 = .ok (.if_icmp .ge 17, 3) := by decide +kernel
theorem dX6_letThrough_9 : decode cX6_letThrough 9 = .ok (.iload_n 2, 1) := by decide +kernel
theorem dX6_letThrough_10 : decode cX6_letThrough 10 = .ok (.aload_n 0, 1) := by decide +kernel
theorem dX6_letThrough_11 : decode cX6_letThrough 11 = .ok (.iload_n 3, 1) := by decide +kernel
theorem dX6_letThrough_12 : decode cX6_letThrough 12 = .ok (.invokevirtual 64, 3) := by decide +kernel
theorem dX6_letThrough_15 : decode cX6_letThrough 15 = .ok (.iadd, 1) := by decide +kernel
theorem dX6_letThrough_16 : decode cX6_letThrough 16 = .ok (.istore_n 2, 1) := by decide +kernel
theorem dX6_letThrough_17 : decode cX6_letThrough 17 = .ok (.iinc 3 1, 3) := by decide +kernel
theorem dX6_letThrough_20 : decode cX6_letThrough 20 = .ok (.goto (-16), 3) := by decide +kernel
theorem dX6_letThrough_23 : decode cX6_letThrough 23 = .ok (.iload_n 1, 1) := by decide +kernel
theorem dX6_letThrough_24 : decode cX6_letThrough 24 = .ok (.aload_n 0, 1) := by decide +kernel
theorem dX6_letThrough_25 : decode cX6_letThrough 25 = .ok (.iconst 4, 1) := by decide +kernel
theorem dX6_letThrough_26 : decode cX6_letThrough 26 = .ok (.invokevirtual 64, 3) := by decide +kernel
theorem dX6_letThrough_29 : decode cX6_letThrough 29 = .ok (.iadd, 1) := by decide +kernel
theorem dX6_letThrough_30 : decode cX6_letThrough 30 = .ok (.istore_n 3, 1) := by decide +kernel
theorem dX6_letThrough_31 : decode cX6_letThrough 31 = .ok (.iload_n 2, 1) := by decide +kernel
theorem dX6_letThrough_32 : decode cX6_letThrough 32 = .ok (.aload_n 0, 1) := by decide +kernel
theorem dX6_letThrough_33 : decode cX6_letThrough 33 = .ok (.getfield 67, 3) := by decide +kernel
theorem dX6_letThrough_36 : decode cX6_letThrough 36 = .ok (.aload_n 0, 1) := by decide +kernel
theorem dX6_letThrough_37 : decode cX6_letThrough 37 = .ok (.getfield 39, 3) := by decide +kernel
theorem dX6_letThrough_40 : decode cX6_letThrough 40 = .ok (.invokestatic 70, 3) := by decide +kernel
theorem dX6_letThrough_43 : decode cX6_letThrough 43 = .ok (.istore 4, 2) := by decide +kernel
theorem dX6_letThrough_45 : decode cX6_letThrough 45 = .ok (.iload_n 3, 1) := by decide +kernel
theorem dX6_letThrough_46 : decode cX6_letThrough 46 = .ok (.aload_n 0, 1) := by decide +kernel
theorem dX6_letThrough_47 : decode cX6_letThrough 47 = .ok (.getfield 67, 3) := by decide +kernel
theorem dX6_letThrough_50 : decode cX6_letThrough 50 = .ok (.aload_n 0, 1) := by decide +kernel
theorem dX6_letThrough_51 : decode cX6_letThrough 51 = .ok (.getfield 39, 3) := by decide +kernel
theorem dX6_letThrough_54 : decode cX6_letThrough 54 = .ok (.invokestatic 70, 3) := by decide +kernel
theorem dX6_letThrough_57 : decode cX6_letThrough 57 = .ok (.istore 5, 2) := by decide +kernel
theorem dX6_letThrough_59 : decode cX6_letThrough 59 = .ok (.aload_n 0, 1) := by decide +kernel
theorem dX6_letThrough_60 : decode cX6_letThrough 60 = .ok (.getfield 12, 3) := by decide +kernel
theorem dX6_letThrough_63 : decode cX6_letThrough 63 = .ok (.iload 5, 2) := by decide +kernel
theorem dX6_letThrough_65 : decode cX6_letThrough 65 = .ok (.invokevirtual 74, 3) := by decide +kernel
theorem dX6_letThrough_68 : decode cX6_letThrough 68 = .ok (.aload_n 0, 1) := by decide +kernel
theorem dX6_letThrough_69 : decode cX6_letThrough 69 = .ok (.getfield 21, 3) := by decide +kernel
theorem dX6_letThrough_72 : decode cX6_letThrough 72 = .ok (.iload 4, 2) := by decide +kernel
theorem dX6_letThrough_74 : decode cX6_letThrough 74 = .ok (.invokevirtual 78, 3) := by decide +kernel
theorem dX6_letThrough_77 : decode cX6_letThrough 77 = .ok (.aload_n 0, 1) := by decide +kernel
theorem dX6_letThrough_78 : decode cX6_letThrough 78 = .ok (.getfield 28, 3) := by decide +kernel
theorem dX6_letThrough_81 : decode cX6_letThrough 81 = .ok (.iload 4, 2) := by decide +kernel
theorem dX6_letThrough_83 : decode cX6_letThrough 83 = .ok (.iload 4, 2) := by decide +kernel
theorem dX6_letThrough_85 : decode cX6_letThrough 85 = .ok (.iload_n 2, 1) := by decide +kernel
theorem dX6_letThrough_86 : decode cX6_letThrough 86 = .ok (.if_icmp .eq 7, 3) := by decide +kernel
theorem dX6_letThrough_89 : decode cX6_letThrough 89 = .ok (.iconst 1, 1) := by decide +kernel
theorem dX6_letThrough_90 : decode cX6_letThrough 90 = .ok (.goto 4, 3) := by decide +kernel
theorem dX6_letThrough_93 : decode cX6_letThrough 93 = .ok (.iconst 0, 1) := by decide +kernel
theorem dX6_letThrough_94 : decode cX6_letThrough 94 = .ok (.iload 5, 2) := by decide +kernel
theorem dX6_letThrough_96 : decode cX6_letThrough 96 = .ok (.iload_n 3, 1) := by decide +kernel
theorem dX6_letThrough_97 : decode cX6_letThrough 97 = .ok (.if_icmp .eq 7, 3) := by decide +kernel
theorem dX6_letThrough_100 : decode cX6_letThrough 100 = .ok (.iconst 1, 1) := by decide +kernel
theorem dX6_letThrough_101 : decode cX6_letThrough 101 = .ok (.goto 4, 3) := by decide +kernel
theorem dX6_letThrough_104 : decode cX6_letThrough 104 = .ok (.iconst 0, 1) := by decide +kernel
theorem dX6_letThrough_105 : decode cX6_letThrough 105 = .ok (.invokevirtual 81, 3) := by decide +kernel
theorem dX6_letThrough_108 : decode cX6_letThrough 108 = .ok (.iload 4, 2) := by decide +kernel
theorem dX6_letThrough_110 : decode cX6_letThrough 110 = .ok (.ireturn, 1) := by decide +kernel
theorem dX6_letSilenceThrough_0 : decode cX6_letSilenceThrough 0 = .ok (.iconst 0, 1) := by decide +kernel
theorem dX6_letSilenceThrough_1 : decode cX6_letSilenceThrough 1 = .ok (.istore_n 2, 1) := by decide +kernel
theorem dX6_letSilenceThrough_2 : decode cX6_letSilenceThrough 2 = .ok (.iconst 0, 1) := by decide +kernel
theorem dX6_letSilenceThrough_3 : decode cX6_letSilenceThrough 3 = .ok (.istore_n 3, 1) := by decide +kernel
theorem dX6_letSilenceThrough_4 : decode cX6_letSilenceThrough 4 = .ok (.iload_n 3, 1) := by decide +kernel
theorem dX6_letSilenceThrough_5 : decode cX6_letSilenceThrough 5 = .ok (.iload_n 1, 1) := by decide +kernel
theorem dX6_letSilenceThrough_6 : decode cX6_letSilenceThrough 6 = .ok (.if_icmp .ge 22, 3) := by decide +kernel
theorem dX6_letSilenceThrough_9 : decode cX6_letSilenceThrough 9 = .ok (.iload_n 2, 1) := by decide +kernel
theorem dX6_letSilenceThrough_10 : decode cX6_letSilenceThrough 10 = .ok (.aload_n 0, 1) := by decide +kernel
theorem dX6_letSilenceThrough_11 : decode cX6_letSilenceThrough 11 = .ok (.iconst 0, 1) := by decide +kernel
theorem dX6_letSilenceThrough_12 : decode cX6_letSilenceThrough 12 = .ok (.invokevirtual 84, 3) := by decide +kernel
theorem dX6_letSilenceThrough_15 : decode cX6_letSilenceThrough 15 = .ok (.invokestatic 87, 3) := by decide +kernel
theorem dX6_letSilenceThrough_18 : decode cX6_letSilenceThrough 18 = .ok (.invokestatic 92, 3) := by decide +kernel
theorem dX6_letSilenceThrough_21 : decode cX6_letSilenceThrough 21 = .ok (.istore_n 2, 1) := by decide +kernel
theorem dX6_letSilenceThrough_22 : decode cX6_letSilenceThrough 22 = .ok (.iinc 3 1, 3) := by decide +kernel
theorem dX6_letSilenceThrough_25 : decode cX6_letSilenceThrough 25 = .ok (.goto (-21), 3) := by decide +kernel
theorem dX6_letSilenceThrough_28 : decode cX6_letSilenceThrough 28 = .ok (.iload_n 2, 1) := by decide +kernel
theorem dX6_letSilenceThrough_29 : decode cX6_letSilenceThrough 29 = .ok (.ireturn, 1) := by decide +kernel
theorem dX6_feedRing_0 : decode cX6_feedRing 0 = .ok (.iload_n 1, 1) := by decide +kernel
theorem dX6_feedRing_1 : decode cX6_feedRing 1 = .ok (.aload_n 0, 1) := by decide +kernel
theorem dX6_feedRing_2 : decode cX6_feedRing 2 = .ok (.iconst 4, 1) := by decide +kernel
theorem dX6_feedRing_3 : decode cX6_feedRing 3 = .ok (.invokevirtual 64, 3) := by decide +kernel
theorem dX6_feedRing_6 : decode cX6_feedRing 6 = .ok (.iadd, 1) := by decide +kernel
theorem dX6_feedRing_7 : decode cX6_feedRing 7 = .ok (.aload_n 0, 1) := by decide +kernel
theorem dX6_feedRing_8 : decode cX6_feedRing 8 = .ok (.getfield 67, 3) := by decide +kernel
theorem dX6_feedRing_11 : decode cX6_feedRing 11 = .ok (.aload_n 0, 1) := by decide +kernel
theorem dX6_feedRing_12 : decode cX6_feedRing 12 = .ok (.getfield 39, 3) := by decide +kernel
theorem dX6_feedRing_15 : decode cX6_feedRing 15 = .ok (.invokestatic 70, 3) := by decide +kernel
theorem dX6_feedRing_18 : decode cX6_feedRing 18 = .ok (.istore_n 2, 1) := by decide +kernel
theorem dX6_feedRing_19 : decode cX6_feedRing 19 = .ok (.aload_n 0, 1) := by decide +kernel
theorem dX6_feedRing_20 : decode cX6_feedRing 20 = .ok (.getfield 12, 3) := by decide +kernel
theorem dX6_feedRing_23 : decode cX6_feedRing 23 = .ok (.iload_n 2, 1) := by decide +kernel
theorem dX6_feedRing_24 : decode cX6_feedRing 24 = .ok (.invokevirtual 74, 3) := by decide +kernel
theorem dX6_feedRing_27 : decode cX6_feedRing 27 = .ok (.iload_n 2, 1) := by decide +kernel
theorem dX6_feedRing_28 : decode cX6_feedRing 28 = .ok (.ireturn, 1) := by decide +kernel
theorem dX6_wordsOfProgram_0 : decode cX6_wordsOfProgram 0 = .ok (.bipush 64, 2) := by decide +kernel
theorem dX6_wordsOfProgram_2 : decode cX6_wordsOfProgram 2 = .ok (.aload_n 0, 1) := by decide +kernel
theorem dX6_wordsOfProgram_3 : decode cX6_wordsOfProgram 3 = .ok (.getfield 12, 3) := by decide +kernel
theorem dX6_wordsOfProgram_6 : decode cX6_wordsOfProgram 6 = .ok (.getfield 51, 3) := by decide +kernel
theorem dX6_wordsOfProgram_9 : decode cX6_wordsOfProgram 9 = .ok (.isub, 1) := by decide +kernel
theorem dX6_wordsOfProgram_10 : decode cX6_wordsOfProgram 10 = .ok (.ireturn, 1) := by decide +kernel
theorem dX6_takeWords_0 : decode cX6_takeWords 0 = .ok (.aload_n 0, 1) := by decide +kernel
theorem dX6_takeWords_1 : decode cX6_takeWords 1 = .ok (.getfield 12, 3) := by decide +kernel
theorem dX6_takeWords_4 : decode cX6_takeWords 4 = .ok (.iload_n 1, 1) := by decide +kernel
theorem dX6_takeWords_5 : decode cX6_takeWords 5 = .ok (.invokevirtual 95, 3) := by decide +kernel
theorem dX6_takeWords_8 : decode cX6_takeWords 8 = .ok (.aload_n 0, 1) := by decide +kernel
theorem dX6_takeWords_9 : decode cX6_takeWords 9 = .ok (.dup, 1) := by decide +kernel
theorem dX6_takeWords_10 : decode cX6_takeWords 10 = .ok (.getfield 98, 3) := by decide +kernel
theorem dX6_takeWords_13 : decode cX6_takeWords 13 = .ok (.iload_n 1, 1) := by decide +kernel
theorem dX6_takeWords_14 : decode cX6_takeWords 14 = .ok (.iadd, 1) := by decide +kernel
theorem dX6_takeWords_15 : decode cX6_takeWords 15 = .ok (.putfield 98, 3) := by decide +kernel
theorem dX6_takeWords_18 : decode cX6_takeWords 18 = .ok (.return_, 1) := by decide +kernel
theorem dX6_putSetting_0 : decode cX6_putSetting 0 = .ok (.iload_n 1, 1) := by decide +kernel
theorem dX6_putSetting_1 : decode cX6_putSetting 1 = .ok (.ifCond .ne 10, 3) := by decide +kernel
theorem dX6_putSetting_4 : decode cX6_putSetting 4 = .ok (.aload_n 0, 1) := by decide +kernel
theorem dX6_putSetting_5 : decode cX6_putSetting 5 = .ok (.getfield 39, 3) := by decide +kernel
theorem dX6_putSetting_8 : decode cX6_putSetting 8 = .ok (.goto 7, 3) := by decide +kernel
theorem dX6_putSetting_11 : decode cX6_putSetting 11 = .ok (.aload_n 0, 1) := by decide +kernel
theorem dX6_putSetting_12 : decode cX6_putSetting 12 = .ok (.getfield 67, 3) := by decide +kernel
theorem dX6_putSetting_15 : decode cX6_putSetting 15 = .ok (.istore_n 3, 1) := by decide +kernel
theorem dX6_putSetting_16 : decode cX6_putSetting 16 = .ok (.iload_n 1, 1) := by decide +kernel
theorem dX6_putSetting_17 : decode cX6_putSetting 17 = .ok (.ifCond .ne 11, 3) := by decide +kernel
theorem dX6_putSetting_20 : decode cX6_putSetting 20 = .ok (.aload_n 0, 1) := by decide +kernel
theorem dX6_putSetting_21 : decode cX6_putSetting 21 = .ok (.iload_n 2, 1) := by decide +kernel
theorem dX6_putSetting_22 : decode cX6_putSetting 22 = .ok (.putfield 39, 3) := by decide +kernel
theorem dX6_putSetting_25 : decode cX6_putSetting 25 = .ok (.goto 8, 3) := by decide +kernel
theorem dX6_putSetting_28 : decode cX6_putSetting 28 = .ok (.aload_n 0, 1) := by decide +kernel
theorem dX6_putSetting_29 : decode cX6_putSetting 29 = .ok (.iload_n 2, 1) := by decide +kernel
theorem dX6_putSetting_30 : decode cX6_putSetting 30 = .ok (.putfield 67, 3) := by decide +kernel
theorem dX6_putSetting_33 : decode cX6_putSetting 33 = .ok (.iload_n 3, 1) := by decide +kernel
theorem dX6_putSetting_34 : decode cX6_putSetting 34 = .ok (.ireturn, 1) := by decide +kernel
theorem dX6_takeOver_0 : decode cX6_takeOver 0 = .ok (.aload_n 0, 1) := by decide +kernel
theorem dX6_takeOver_1 : decode cX6_takeOver 1 = .ok (.getfield 12, 3) := by decide +kernel
theorem dX6_takeOver_4 : decode cX6_takeOver 4 = .ok (.aload_n 1, 1) := by decide +kernel
theorem dX6_takeOver_5 : decode cX6_takeOver 5 = .ok (.getfield 12, 3) := by decide +kernel
theorem dX6_takeOver_8 : decode cX6_takeOver 8 = .ok (.invokevirtual 101, 3) := by decide +kernel
theorem dX6_takeOver_11 : decode cX6_takeOver 11 = .ok (.aload_n 0, 1) := by decide +kernel
theorem dX6_takeOver_12 : decode cX6_takeOver 12 = .ok (.getfield 21, 3) := by decide +kernel
theorem dX6_takeOver_15 : decode cX6_takeOver 15 = .ok (.aload_n 1, 1) := by decide +kernel
theorem dX6_takeOver_16 : decode cX6_takeOver 16 = .ok (.getfield 21, 3) := by decide +kernel
theorem dX6_takeOver_19 : decode cX6_takeOver 19 = .ok (.invokevirtual 105, 3) := by decide +kernel
theorem dX6_takeOver_22 : decode cX6_takeOver 22 = .ok (.aload_n 0, 1) := by decide +kernel
theorem dX6_takeOver_23 : decode cX6_takeOver 23 = .ok (.getfield 28, 3) := by decide +kernel
theorem dX6_takeOver_26 : decode cX6_takeOver 26 = .ok (.aload_n 1, 1) := by decide +kernel
theorem dX6_takeOver_27 : decode cX6_takeOver 27 = .ok (.getfield 28, 3) := by decide +kernel
theorem dX6_takeOver_30 : decode cX6_takeOver 30 = .ok (.invokevirtual 108, 3) := by decide +kernel
theorem dX6_takeOver_33 : decode cX6_takeOver 33 = .ok (.aload_n 1, 1) := by decide +kernel
theorem dX6_takeOver_34 : decode cX6_takeOver 34 = .ok (.getfield 32, 3) := by decide +kernel
theorem dX6_takeOver_37 : decode cX6_takeOver 37 = .ok (.iconst 0, 1) := by decide +kernel
theorem dX6_takeOver_38 : decode cX6_takeOver 38 = .ok (.aload_n 0, 1) := by decide +kernel
theorem dX6_takeOver_39 : decode cX6_takeOver 39 = .ok (.getfield 32, 3) := by decide +kernel
theorem dX6_takeOver_42 : decode cX6_takeOver 42 = .ok (.iconst 0, 1) := by decide +kernel
theorem dX6_takeOver_43 : decode cX6_takeOver 43 = .ok (.iconst 5, 1) := by decide +kernel
theorem dX6_takeOver_44 : decode cX6_takeOver 44 = .ok (.invokestatic 111, 3) := by decide +kernel
theorem dX6_takeOver_47 : decode cX6_takeOver 47 = .ok (.aload_n 1, 1) := by decide +kernel
theorem dX6_takeOver_48 : decode cX6_takeOver 48 = .ok (.getfield 36, 3) := by decide +kernel
theorem dX6_takeOver_51 : decode cX6_takeOver 51 = .ok (.iconst 0, 1) := by decide +kernel
theorem dX6_takeOver_52 : decode cX6_takeOver 52 = .ok (.aload_n 0, 1) := by decide +kernel
theorem dX6_takeOver_53 : decode cX6_takeOver 53 = .ok (.getfield 36, 3) := by decide +kernel
theorem dX6_takeOver_56 : decode cX6_takeOver 56 = .ok (.iconst 0, 1) := by decide +kernel
theorem dX6_takeOver_57 : decode cX6_takeOver 57 = .ok (.iconst 5, 1) := by decide +kernel
theorem dX6_takeOver_58 : decode cX6_takeOver 58 = .ok (.invokestatic 111, 3) := by decide +kernel
theorem dX6_takeOver_61 : decode cX6_takeOver 61 = .ok (.aload_n 0, 1) := by decide +kernel
theorem dX6_takeOver_62 : decode cX6_takeOver 62 = .ok (.aload_n 1, 1) := by decide +kernel
theorem dX6_takeOver_63 : decode cX6_takeOver 63 = .ok (.getfield 39, 3) := by decide +kernel
theorem dX6_takeOver_66 : decode cX6_takeOver 66 = .ok (.putfield 39, 3) := by decide +kernel
theorem dX6_takeOver_69 : decode cX6_takeOver 69 = .ok (.aload_n 0, 1) := by decide +kernel
theorem dX6_takeOver_70 : decode cX6_takeOver 70 = .ok (.aload_n 1, 1) := by decide +kernel
theorem dX6_takeOver_71 : decode cX6_takeOver 71 = .ok (.getfield 67, 3) := by decide +kernel
theorem dX6_takeOver_74 : decode cX6_takeOver 74 = .ok (.putfield 67, 3) := by decide +kernel
theorem dX6_takeOver_77 : decode cX6_takeOver 77 = .ok (.aload_n 0, 1) := by decide +kernel
theorem dX6_takeOver_78 : decode cX6_takeOver 78 = .ok (.aload_n 1, 1) := by decide +kernel
theorem dX6_takeOver_79 : decode cX6_takeOver 79 = .ok (.getfield 98, 3) := by decide +kernel
theorem dX6_takeOver_82 : decode cX6_takeOver 82 = .ok (.putfield 98, 3) := by decide +kernel
theorem dX6_takeOver_85 : decode cX6_takeOver 85 = .ok (.return_, 1) := by decide +kernel
theorem dX7_init_0 : decode cX7_init 0 = .ok (.aload_n 0, 1) := by decide +kernel
theorem dX7_init_1 : decode cX7_init 1 = .ok (.invokespecial 3, 3) := by decide +kernel
theorem dX7_init_4 : decode cX7_init 4 = .ok (.aload_n 0, 1) := by decide +kernel
theorem dX7_init_5 : decode cX7_init 5 = .ok (.bipush 60, 2) := by decide +kernel
theorem dX7_init_7 : decode cX7_init 7 = .ok (.newarray .int, 2) := by decide +kernel
theorem dX7_init_9 : decode cX7_init 9 = .ok (.putfield 9, 3) := by decide +kernel
theorem dX7_init_12 : decode cX7_init 12 = .ok (.return_, 1) := by decide +kernel
theorem dX7_characterAt_0 : decode cX7_characterAt 0 = .ok (.iload_n 1, 1) := by decide +kernel
theorem dX7_characterAt_1 : decode cX7_characterAt 1 = .ok (.ifCond .lt 17, 3) := by decide +kernel
theorem dX7_characterAt_4 : decode cX7_characterAt 4 = .ok (.iload_n 1, 1) := by decide +kernel
theorem dX7_characterAt_5 : decode cX7_characterAt 5 = .ok (.aload_n 0, 1) := by decide +kernel
theorem dX7_characterAt_6 : decode cX7_characterAt 6 = .ok (.getfield 15, 3) := by decide +kernel
theorem dX7_characterAt_9 : decode cX7_characterAt 9 = .ok (.if_icmp .ge 9, 3) := by decide +kernel
theorem dX7_characterAt_12 : decode cX7_characterAt 12 = .ok (.iload_n 1, 1) := by decide +kernel
theorem dX7_characterAt_13 : decode cX7_characterAt 13 = .ok (.bipush 60, 2) := by decide +kernel
theorem dX7_characterAt_15 : decode cX7_characterAt 15 = .ok (.if_icmp .lt 5, 3) := by decide +kernel
theorem dX7_characterAt_18 : decode cX7_characterAt 18 = .ok (.iconst (-1), 1) := by decide +kernel
theorem dX7_characterAt_19 : decode cX7_characterAt 19 = .ok (.ireturn, 1) := by decide +kernel
theorem dX7_characterAt_20 : decode cX7_characterAt 20 = .ok (.aload_n 0, 1) := by decide +kernel
theorem dX7_characterAt_21 : decode cX7_characterAt 21 = .ok (.getfield 9, 3) := by decide +kernel
theorem dX7_characterAt_24 : decode cX7_characterAt 24 = .ok (.iload_n 1, 1) := by decide +kernel
theorem dX7_characterAt_25 : decode cX7_characterAt 25 = .ok (.iaload, 1) := by decide +kernel
theorem dX7_characterAt_26 : decode cX7_characterAt 26 = .ok (.ireturn, 1) := by decide +kernel
theorem dX7_append_0 : decode cX7_append 0 = .ok (.aload_n 0, 1) := by decide +kernel
theorem dX7_append_1 : decode cX7_append 1 = .ok (.getfield 15, 3) := by decide +kernel
theorem dX7_append_4 : decode cX7_append 4 = .ok (.ifCond .lt 32, 3) := by decide +kernel
theorem dX7_append_7 : decode cX7_append 7 = .ok (.aload_n 0, 1) := by decide +kernel
theorem dX7_append_8 : decode cX7_append 8 = .ok (.getfield 15, 3) := by decide +kernel
theorem dX7_append_11 : decode cX7_append 11 = .ok (.bipush 60, 2) := by decide +kernel
theorem dX7_append_13 : decode cX7_append 13 = .ok (.if_icmp .ge 23, 3) := by decide +kernel
theorem dX7_append_16 : decode cX7_append 16 = .ok (.aload_n 0, 1) := by decide +kernel
theorem dX7_append_17 : decode cX7_append 17 = .ok (.getfield 9, 3) := by decide +kernel
theorem dX7_append_20 : decode cX7_append 20 = .ok (.aload_n 0, 1) := by decide +kernel
theorem dX7_append_21 : decode cX7_append 21 = .ok (.getfield 15, 3) := by decide +kernel
theorem dX7_append_24 : decode cX7_append 24 = .ok (.iload_n 1, 1) := by decide +kernel
theorem dX7_append_25 : decode cX7_append 25 = .ok (.iastore, 1) := by decide +kernel
theorem dX7_append_26 : decode cX7_append 26 = .ok (.aload_n 0, 1) := by decide +kernel
theorem dX7_append_27 : decode cX7_append 27 = .ok (.dup, 1) := by decide +kernel
theorem dX7_append_28 : decode cX7_append 28 = .ok (.getfield 15, 3) := by decide +kernel
theorem dX7_append_31 : decode cX7_append 31 = .ok (.iconst 1, 1) := by decide +kernel
theorem dX7_append_32 : decode cX7_append 32 = .ok (.iadd, 1) := by decide +kernel
theorem dX7_append_33 : decode cX7_append 33 = .ok (.putfield 15, 3) := by decide +kernel
theorem dX7_append_36 : decode cX7_append 36 = .ok (.return_, 1) := by decide +kernel
theorem dX8_init_0 : decode cX8_init 0 = .ok (.aload_n 0, 1) := by decide +kernel
theorem dX8_init_1 : decode cX8_init 1 = .ok (.invokespecial 1, 3) := by decide +kernel
theorem dX8_init_4 : decode cX8_init 4 = .ok (.aload_n 0, 1) := by decide +kernel
theorem dX8_init_5 : decode cX8_init 5 = .ok (.new 7, 3) := by decide +kernel
theorem dX8_init_8 : decode cX8_init 8 = .ok (.dup, 1) := by decide +kernel
theorem dX8_init_9 : decode cX8_init 9 = .ok (.invokespecial 9, 3) := by decide +kernel
theorem dX8_init_12 : decode cX8_init 12 = .ok (.putfield 10, 3) := by decide +kernel
theorem dX8_init_15 : decode cX8_init 15 = .ok (.aload_n 0, 1) := by decide +kernel
theorem dX8_init_16 : decode cX8_init 16 = .ok (.new 7, 3) := by decide +kernel
theorem dX8_init_19 : decode cX8_init 19 = .ok (.dup, 1) := by decide +kernel
theorem dX8_init_20 : decode cX8_init 20 = .ok (.invokespecial 9, 3) := by decide +kernel
theorem dX8_init_23 : decode cX8_init 23 = .ok (.putfield 16, 3) := by decide +kernel
theorem dX8_init_26 : decode cX8_init 26 = .ok (.aload_n 0, 1) := by decide +kernel
theorem dX8_init_27 : decode cX8_init 27 = .ok (.new 19, 3) := by decide +kernel
theorem dX8_init_30 : decode cX8_init 30 = .ok (.dup, 1) := by decide +kernel
theorem dX8_init_31 : decode cX8_init 31 = .ok (.invokespecial 21, 3) := by decide +kernel
theorem dX8_init_34 : decode cX8_init 34 = .ok (.putfield 22, 3) := by decide +kernel
theorem dX8_init_37 : decode cX8_init 37 = .ok (.aload_n 0, 1) := by decide +kernel
theorem dX8_init_38 : decode cX8_init 38 = .ok (.new 26, 3) := by decide +kernel
theorem dX8_init_41 : decode cX8_init 41 = .ok (.dup, 1) := by decide +kernel
theorem dX8_init_42 : decode cX8_init 42 = .ok (.invokespecial 28, 3) := by decide +kernel
theorem dX8_init_45 : decode cX8_init 45 = .ok (.putfield 29, 3) := by decide +kernel
theorem dX8_init_48 : decode cX8_init 48 = .ok (.aload_n 0, 1) := by decide +kernel
theorem dX8_init_49 : decode cX8_init 49 = .ok (.new 33, 3) := by decide +kernel
theorem dX8_init_52 : decode cX8_init 52 = .ok (.dup, 1) := by decide +kernel
theorem dX8_init_53 : decode cX8_init 53 = .ok (.invokespecial 35, 3) := by decide +kernel
theorem dX8_init_56 : decode cX8_init 56 = .ok (.putfield 36, 3) := by decide +kernel
theorem dX8_init_59 : decode cX8_init 59 = .ok (.aload_n 0, 1) := by decide +kernel
theorem dX8_init_60 : decode cX8_init 60 = .ok (.new 40, 3) := by decide +kernel
theorem dX8_init_63 : decode cX8_init 63 = .ok (.dup, 1) := by decide +kernel
theorem dX8_init_64 : decode cX8_init 64 = .ok (.invokespecial 42, 3) := by decide +kernel
theorem dX8_init_67 : decode cX8_init 67 = .ok (.putfield 43, 3) := by decide +kernel
theorem dX8_init_70 : decode cX8_init 70 = .ok (.return_, 1) := by decide +kernel
theorem dX8_sample_0 : decode cX8_sample 0 = .ok (.iload_n 1, 1) := by decide +kernel
theorem dX8_sample_1 : decode cX8_sample 1 = .ok (.invokestatic 47, 3) := by decide +kernel
theorem dX8_sample_4 : decode cX8_sample 4 = .ok (.istore_n 2, 1) := by decide +kernel
theorem dX8_sample_5 : decode cX8_sample 5 = .ok (.iload_n 2, 1) := by decide +kernel
theorem dX8_sample_6 : decode cX8_sample 6 = .ok (.ifCond .eq 5, 3) := by decide +kernel
theorem dX8_sample_9 : decode cX8_sample 9 = .ok (.iload_n 2, 1) := by decide +kernel
theorem dX8_sample_10 : decode cX8_sample 10 = .ok (.ireturn, 1) := by decide +kernel
theorem dX8_sample_11 : decode cX8_sample 11 = .ok (.aload_n 0, 1) := by decide +kernel
theorem dX8_sample_12 : decode cX8_sample 12 = .ok (.getfield 22, 3) := by decide +kernel
theorem dX8_sample_15 : decode cX8_sample 15 = .ok (.aload_n 0, 1) := by decide +kernel
theorem dX8_sample_16 : decode cX8_sample 16 = .ok (.getfield 10, 3) := by decide +kernel
theorem dX8_sample_19 : decode cX8_sample 19 = .ok (.invokevirtual 51, 3) := by decide +kernel
theorem dX8_sample_22 : decode cX8_sample 22 = .ok (.aload_n 0, 1) := by decide +kernel
theorem dX8_sample_23 : decode cX8_sample 23 = .ok (.getfield 10, 3) := by decide +kernel
theorem dX8_sample_26 : decode cX8_sample 26 = .ok (.iload_n 1, 1) := by decide +kernel
theorem dX8_sample_27 : decode cX8_sample 27 = .ok (.invokevirtual 55, 3) := by decide +kernel
theorem dX8_sample_30 : decode cX8_sample 30 = .ok (.ireturn, 1) := by decide +kernel
theorem dX8_silence_0 : decode cX8_silence 0 = .ok (.iload_n 1, 1) := by decide +kernel
theorem dX8_silence_1 : decode cX8_silence 1 = .ok (.invokestatic 58, 3) := by decide +kernel
theorem dX8_silence_4 : decode cX8_silence 4 = .ok (.istore_n 2, 1) := by decide +kernel
theorem dX8_silence_5 : decode cX8_silence 5 = .ok (.iload_n 2, 1) := by decide +kernel
theorem dX8_silence_6 : decode cX8_silence 6 = .ok (.ifCond .eq 5, 3) := by decide +kernel
theorem dX8_silence_9 : decode cX8_silence 9 = .ok (.iload_n 2, 1) := by decide +kernel
theorem dX8_silence_10 : decode cX8_silence 10 = .ok (.ireturn, 1) := by decide +kernel
theorem dX8_silence_11 : decode cX8_silence 11 = .ok (.aload_n 0, 1) := by decide +kernel
theorem dX8_silence_12 : decode cX8_silence 12 = .ok (.getfield 22, 3) := by decide +kernel
theorem dX8_silence_15 : decode cX8_silence 15 = .ok (.aload_n 0, 1) := by decide +kernel
theorem dX8_silence_16 : decode cX8_silence 16 = .ok (.getfield 10, 3) := by decide +kernel
theorem dX8_silence_19 : decode cX8_silence 19 = .ok (.invokevirtual 51, 3) := by decide +kernel
theorem dX8_silence_22 : decode cX8_silence 22 = .ok (.aload_n 0, 1) := by decide +kernel
theorem dX8_silence_23 : decode cX8_silence 23 = .ok (.getfield 10, 3) := by decide +kernel
theorem dX8_silence_26 : decode cX8_silence 26 = .ok (.iload_n 1, 1) := by decide +kernel
theorem dX8_silence_27 : decode cX8_silence 27 = .ok (.invokevirtual 61, 3) := by decide +kernel
theorem dX8_silence_30 : decode cX8_silence 30 = .ok (.ireturn, 1) := by decide +kernel
theorem dX8_tap_0 : decode cX8_tap 0 = .ok (.iload_n 1, 1) := by decide +kernel
theorem dX8_tap_1 : decode cX8_tap 1 = .ok (.iload_n 2, 1) := by decide +kernel
theorem dX8_tap_2 : decode cX8_tap 2 = .ok (.iload_n 3, 1) := by decide +kernel
theorem dX8_tap_3 : decode cX8_tap 3 = .ok (.invokestatic 64, 3) := by decide +kernel
theorem dX8_tap_6 : decode cX8_tap 6 = .ok (.istore 4, 2) := by decide +kernel
theorem dX8_tap_8 : decode cX8_tap 8 = .ok (.iload 4, 2) := by decide +kernel
theorem dX8_tap_10 : decode cX8_tap 10 = .ok (.ifCond .eq 6, 3) := by decide +kernel
theorem dX8_tap_13 : decode cX8_tap 13 = .ok (.iload 4, 2) := by decide +kernel
theorem dX8_tap_15 : decode cX8_tap 15 = .ok (.ireturn, 1) := by decide +kernel
theorem dX8_tap_16 : decode cX8_tap 16 = .ok (.aload_n 0, 1) := by decide +kernel
theorem dX8_tap_17 : decode cX8_tap 17 = .ok (.getfield 22, 3) := by decide +kernel
theorem dX8_tap_20 : decode cX8_tap 20 = .ok (.aload_n 0, 1) := by decide +kernel
theorem dX8_tap_21 : decode cX8_tap 21 = .ok (.getfield 10, 3) := by decide +kernel
theorem dX8_tap_24 : decode cX8_tap 24 = .ok (.invokevirtual 51, 3) := by decide +kernel
theorem dX8_tap_27 : decode cX8_tap 27 = .ok (.aload_n 0, 1) := by decide +kernel
theorem dX8_tap_28 : decode cX8_tap 28 = .ok (.getfield 10, 3) := by decide +kernel
theorem dX8_tap_31 : decode cX8_tap 31 = .ok (.iload_n 1, 1) := by decide +kernel
theorem dX8_tap_32 : decode cX8_tap 32 = .ok (.iload_n 2, 1) := by decide +kernel
theorem dX8_tap_33 : decode cX8_tap 33 = .ok (.iload_n 3, 1) := by decide +kernel
theorem dX8_tap_34 : decode cX8_tap 34 = .ok (.invokevirtual 68, 3) := by decide +kernel
theorem dX8_tap_37 : decode cX8_tap 37 = .ok (.aload_n 0, 1) := by decide +kernel
theorem dX8_tap_38 : decode cX8_tap 38 = .ok (.getfield 10, 3) := by decide +kernel
theorem dX8_tap_41 : decode cX8_tap 41 = .ok (.iload_n 1, 1) := by decide +kernel
theorem dX8_tap_42 : decode cX8_tap 42 = .ok (.invokevirtual 72, 3) := by decide +kernel
theorem dX8_tap_45 : decode cX8_tap 45 = .ok (.ifCond .eq 7, 3) := by decide +kernel
theorem dX8_tap_48 : decode cX8_tap 48 = .ok (.iconst 1, 1) := by decide +kernel
theorem dX8_tap_49 : decode cX8_tap 49 = .ok (.goto 4, 3) := by decide +kernel
theorem dX8_tap_52 : decode cX8_tap 52 = .ok (.iconst 0, 1) := by decide +kernel
theorem dX8_tap_53 : decode cX8_tap 53 = .ok (.ireturn, 1) := by decide +kernel
theorem dX8_off_0 : decode cX8_off 0 = .ok (.iload_n 1, 1) := by decide +kernel
theorem dX8_off_1 : decode cX8_off 1 = .ok (.invokestatic 76, 3) := by decide +kernel
theorem dX8_off_4 : decode cX8_off 4 = .ok (.ifCond .ne 6, 3) := by decide +kernel
theorem dX8_off_7 : decode cX8_off 7 = .ok (.ldc 79, 2) := by decide +kernel
theorem dX8_off_9 : decode cX8_off 9 = .ok (.ireturn, 1) := by decide +kernel
theorem dX8_off_10 : decode cX8_off 10 = .ok (.aload_n 0, 1) := by decide +kernel
theorem dX8_off_11 : decode cX8_off 11 = .ok (.getfield 10, 3) := by decide +kernel
theorem dX8_off_14 : decode cX8_off 14 = .ok (.iload_n 1, 1) := by decide +kernel
theorem dX8_off_15 : decode cX8_off 15 = .ok (.invokevirtual 80, 3) := by decide +kernel
theorem dX8_off_18 : decode cX8_off 18 = .ok (.ifCond .ne 6, 3) := by decide +kernel
theorem dX8_off_21 : decode cX8_off 21 = .ok (.ldc 83, 2) := by decide +kernel
theorem dX8_off_23 : decode cX8_off 23 = .ok (.ireturn, 1) := by decide +kernel
theorem dX8_off_24 : decode cX8_off 24 = .ok (.aload_n 0, 1) := by decide +kernel
theorem dX8_off_25 : decode cX8_off 25 = .ok (.getfield 22, 3) := by decide +kernel
theorem dX8_off_28 : decode cX8_off 28 = .ok (.aload_n 0, 1) := by decide +kernel
theorem dX8_off_29 : decode cX8_off 29 = .ok (.getfield 10, 3) := by decide +kernel
theorem dX8_off_32 : decode cX8_off 32 = .ok (.invokevirtual 51, 3) := by decide +kernel
theorem dX8_off_35 : decode cX8_off 35 = .ok (.aload_n 0, 1) := by decide +kernel
theorem dX8_off_36 : decode cX8_off 36 = .ok (.getfield 10, 3) := by decide +kernel
theorem dX8_off_39 : decode cX8_off 39 = .ok (.iload_n 1, 1) := by decide +kernel
theorem dX8_off_40 : decode cX8_off 40 = .ok (.invokevirtual 84, 3) := by decide +kernel
theorem dX8_off_43 : decode cX8_off 43 = .ok (.istore_n 2, 1) := by decide +kernel
theorem dX8_off_44 : decode cX8_off 44 = .ok (.aload_n 0, 1) := by decide +kernel
theorem dX8_off_45 : decode cX8_off 45 = .ok (.getfield 10, 3) := by decide +kernel
theorem dX8_off_48 : decode cX8_off 48 = .ok (.iload_n 1, 1) := by decide +kernel
theorem dX8_off_49 : decode cX8_off 49 = .ok (.iconst 0, 1) := by decide +kernel
theorem dX8_off_50 : decode cX8_off 50 = .ok (.iconst 0, 1) := by decide +kernel
theorem dX8_off_51 : decode cX8_off 51 = .ok (.invokevirtual 68, 3) := by decide +kernel
theorem dX8_off_54 : decode cX8_off 54 = .ok (.iload_n 2, 1) := by decide +kernel
theorem dX8_off_55 : decode cX8_off 55 = .ok (.ireturn, 1) := by decide +kernel
theorem dX8_feedback_0 : decode cX8_feedback 0 = .ok (.iload_n 1, 1) := by decide +kernel
theorem dX8_feedback_1 : decode cX8_feedback 1 = .ok (.iload_n 2, 1) := by decide +kernel
theorem dX8_feedback_2 : decode cX8_feedback 2 = .ok (.invokestatic 87, 3) := by decide +kernel
theorem dX8_feedback_5 : decode cX8_feedback 5 = .ok (.istore_n 3, 1) := by decide +kernel
theorem dX8_feedback_6 : decode cX8_feedback 6 = .ok (.iload_n 3, 1) := by decide +kernel
theorem dX8_feedback_7 : decode cX8_feedback 7 = .ok (.ifCond .eq 5, 3) := by decide +kernel
theorem dX8_feedback_10 : decode cX8_feedback 10 = .ok (.iload_n 3, 1) := by decide +kernel
theorem dX8_feedback_11 : decode cX8_feedback 11 = .ok (.ireturn, 1) := by decide +kernel
theorem dX8_feedback_12 : decode cX8_feedback 12 = .ok (.aload_n 0, 1) := by decide +kernel
theorem dX8_feedback_13 : decode cX8_feedback 13 = .ok (.getfield 22, 3) := by decide +kernel
theorem dX8_feedback_16 : decode cX8_feedback 16 = .ok (.aload_n 0, 1) := by decide +kernel
theorem dX8_feedback_17 : decode cX8_feedback 17 = .ok (.getfield 10, 3) := by decide +kernel
theorem dX8_feedback_20 : decode cX8_feedback 20 = .ok (.invokevirtual 51, 3) := by decide +kernel
theorem dX8_feedback_23 : decode cX8_feedback 23 = .ok (.aload_n 0, 1) := by decide +kernel
theorem dX8_feedback_24 : decode cX8_feedback 24 = .ok (.getfield 10, 3) := by decide +kernel
theorem dX8_feedback_27 : decode cX8_feedback 27 = .ok (.iconst 4, 1) := by decide +kernel
theorem dX8_feedback_28 : decode cX8_feedback 28 = .ok (.invokevirtual 91, 3) := by decide +kernel
theorem dX8_feedback_31 : decode cX8_feedback 31 = .ok (.istore 4, 2) := by decide +kernel
theorem dX8_feedback_33 : decode cX8_feedback 33 = .ok (.aload_n 0, 1) := by decide +kernel
theorem dX8_feedback_34 : decode cX8_feedback 34 = .ok (.getfield 10, 3) := by decide +kernel
theorem dX8_feedback_37 : decode cX8_feedback 37 = .ok (.iconst 4, 1) := by decide +kernel
theorem dX8_feedback_38 : decode cX8_feedback 38 = .ok (.iload_n 1, 1) := by decide +kernel
theorem dX8_feedback_39 : decode cX8_feedback 39 = .ok (.iload_n 2, 1) := by decide +kernel
theorem dX8_feedback_40 : decode cX8_feedback 40 = .ok (.invokevirtual 68, 3) := by decide +kernel
theorem dX8_feedback_43 : decode cX8_feedback 43 = .ok (.iload 4, 2) := by decide +kernel
theorem dX8_feedback_45 : decode cX8_feedback 45 = .ok (.ireturn, 1) := by decide +kernel
theorem dX8_steal_0 : decode cX8_steal 0 = .ok (.iload_n 1, 1) := by decide +kernel
theorem dX8_steal_1 : decode cX8_steal 1 = .ok (.aload_n 0, 1) := by decide +kernel
theorem dX8_steal_2 : decode cX8_steal 2 = .ok (.getfield 10, 3) := by decide +kernel
theorem dX8_steal_5 : decode cX8_steal 5 = .ok (.invokevirtual 94, 3) := by decide +kernel
theorem dX8_steal_8 : decode cX8_steal 8 = .ok (.invokestatic 98, 3) := by decide +kernel
theorem dX8_steal_11 : decode cX8_steal 11 = .ok (.istore_n 2, 1) := by decide +kernel
theorem dX8_steal_12 : decode cX8_steal 12 = .ok (.iload_n 2, 1) := by decide +kernel
theorem dX8_steal_13 : decode cX8_steal 13 = .ok (.ifCond .eq 5, 3) := by decide +kernel
theorem dX8_steal_16 : decode cX8_steal 16 = .ok (.iload_n 2, 1) := by decide +kernel
theorem dX8_steal_17 : decode cX8_steal 17 = .ok (.ireturn, 1) := by decide +kernel
theorem dX8_steal_18 : decode cX8_steal 18 = .ok (.aload_n 0, 1) := by decide +kernel
theorem dX8_steal_19 : decode cX8_steal 19 = .ok (.getfield 22, 3) := by decide +kernel
theorem dX8_steal_22 : decode cX8_steal 22 = .ok (.aload_n 0, 1) := by decide +kernel
theorem dX8_steal_23 : decode cX8_steal 23 = .ok (.getfield 10, 3) := by decide +kernel
theorem dX8_steal_26 : decode cX8_steal 26 = .ok (.invokevirtual 51, 3) := by decide +kernel
theorem dX8_steal_29 : decode cX8_steal 29 = .ok (.aload_n 0, 1) := by decide +kernel
theorem dX8_steal_30 : decode cX8_steal 30 = .ok (.getfield 10, 3) := by decide +kernel
theorem dX8_steal_33 : decode cX8_steal 33 = .ok (.iload_n 1, 1) := by decide +kernel
theorem dX8_steal_34 : decode cX8_steal 34 = .ok (.invokevirtual 101, 3) := by decide +kernel
theorem dX8_steal_37 : decode cX8_steal 37 = .ok (.aload_n 0, 1) := by decide +kernel
theorem dX8_steal_38 : decode cX8_steal 38 = .ok (.getfield 10, 3) := by decide +kernel
theorem dX8_steal_41 : decode cX8_steal 41 = .ok (.getfield 105, 3) := by decide +kernel
theorem dX8_steal_44 : decode cX8_steal 44 = .ok (.getfield 109, 3) := by decide +kernel
theorem dX8_steal_47 : decode cX8_steal 47 = .ok (.ireturn, 1) := by decide +kernel
theorem dX8_giveBack_0 : decode cX8_giveBack 0 = .ok (.iload_n 1, 1) := by decide +kernel
theorem dX8_giveBack_1 : decode cX8_giveBack 1 = .ok (.aload_n 0, 1) := by decide +kernel
theorem dX8_giveBack_2 : decode cX8_giveBack 2 = .ok (.getfield 10, 3) := by decide +kernel
theorem dX8_giveBack_5 : decode cX8_giveBack 5 = .ok (.invokevirtual 94, 3) := by decide +kernel
theorem dX8_giveBack_8 : decode cX8_giveBack 8 = .ok (.invokestatic 115, 3) := by decide +kernel
theorem dX8_giveBack_11 : decode cX8_giveBack 11 = .ok (.istore_n 2, 1) := by decide +kernel
theorem dX8_giveBack_12 : decode cX8_giveBack 12 = .ok (.iload_n 2, 1) := by decide +kernel
theorem dX8_giveBack_13 : decode cX8_giveBack 13 = .ok (.ifCond .eq 5, 3) := by decide +kernel
theorem dX8_giveBack_16 : decode cX8_giveBack 16 = .ok (.iload_n 2, 1) := by decide +kernel
theorem dX8_giveBack_17 : decode cX8_giveBack 17 = .ok (.ireturn, 1) := by decide +kernel
theorem dX8_giveBack_18 : decode cX8_giveBack 18 = .ok (.aload_n 0, 1) := by decide +kernel
theorem dX8_giveBack_19 : decode cX8_giveBack 19 = .ok (.getfield 22, 3) := by decide +kernel
theorem dX8_giveBack_22 : decode cX8_giveBack 22 = .ok (.aload_n 0, 1) := by decide +kernel
theorem dX8_giveBack_23 : decode cX8_giveBack 23 = .ok (.getfield 10, 3) := by decide +kernel
theorem dX8_giveBack_26 : decode cX8_giveBack 26 = .ok (.invokevirtual 51, 3) := by decide +kernel
theorem dX8_giveBack_29 : decode cX8_giveBack 29 = .ok (.aload_n 0, 1) := by decide +kernel
theorem dX8_giveBack_30 : decode cX8_giveBack 30 = .ok (.getfield 10, 3) := by decide +kernel
theorem dX8_giveBack_33 : decode cX8_giveBack 33 = .ok (.getfield 105, 3) := by decide +kernel
theorem dX8_giveBack_36 : decode cX8_giveBack 36 = .ok (.iload_n 1, 1) := by decide +kernel
theorem dX8_giveBack_37 : decode cX8_giveBack 37 = .ok (.invokevirtual 118, 3) := by decide +kernel
theorem dX8_giveBack_40 : decode cX8_giveBack 40 = .ok (.aload_n 0, 1) := by decide +kernel
theorem dX8_giveBack_41 : decode cX8_giveBack 41 = .ok (.getfield 10, 3) := by decide +kernel
theorem dX8_giveBack_44 : decode cX8_giveBack 44 = .ok (.getfield 105, 3) := by decide +kernel
theorem dX8_giveBack_47 : decode cX8_giveBack 47 = .ok (.getfield 109, 3) := by decide +kernel
theorem dX8_giveBack_50 : decode cX8_giveBack 50 = .ok (.ireturn, 1) := by decide +kernel
theorem dX8_set_0 : decode cX8_set 0 = .ok (.iload_n 1, 1) := by decide +kernel
theorem dX8_set_1 : decode cX8_set 1 = .ok (.iload_n 2, 1) := by decide +kernel
theorem dX8_set_2 : decode cX8_set 2 = .ok (.invokestatic 121, 3) := by decide +kernel
theorem dX8_set_5 : decode cX8_set 5 = .ok (.ifCond .ne 6, 3) := by decide +kernel
theorem dX8_set_8 : decode cX8_set 8 = .ok (.ldc 79, 2) := by decide +kernel
theorem dX8_set_10 : decode cX8_set 10 = .ok (.ireturn, 1) := by decide +kernel
theorem dX8_set_11 : decode cX8_set 11 = .ok (.aload_n 0, 1) := by decide +kernel
theorem dX8_set_12 : decode cX8_set 12 = .ok (.getfield 22, 3) := by decide +kernel
theorem dX8_set_15 : decode cX8_set 15 = .ok (.aload_n 0, 1) := by decide +kernel
theorem dX8_set_16 : decode cX8_set 16 = .ok (.getfield 10, 3) := by decide +kernel
theorem dX8_set_19 : decode cX8_set 19 = .ok (.invokevirtual 51, 3) := by decide +kernel
theorem dX8_set_22 : decode cX8_set 22 = .ok (.aload_n 0, 1) := by decide +kernel
theorem dX8_set_23 : decode cX8_set 23 = .ok (.getfield 10, 3) := by decide +kernel
theorem dX8_set_26 : decode cX8_set 26 = .ok (.iload_n 1, 1) := by decide +kernel
theorem dX8_set_27 : decode cX8_set 27 = .ok (.iload_n 2, 1) := by decide +kernel
theorem dX8_set_28 : decode cX8_set 28 = .ok (.invokevirtual 125, 3) := by decide +kernel
theorem dX8_set_31 : decode cX8_set 31 = .ok (.ireturn, 1) := by decide +kernel
theorem dX8_reset_0 : decode cX8_reset 0 = .ok (.aload_n 0, 1) := by decide +kernel
theorem dX8_reset_1 : decode cX8_reset 1 = .ok (.getfield 22, 3) := by decide +kernel
theorem dX8_reset_4 : decode cX8_reset 4 = .ok (.aload_n 0, 1) := by decide +kernel
theorem dX8_reset_5 : decode cX8_reset 5 = .ok (.getfield 10, 3) := by decide +kernel
theorem dX8_reset_8 : decode cX8_reset 8 = .ok (.invokevirtual 51, 3) := by decide +kernel
theorem dX8_reset_11 : decode cX8_reset 11 = .ok (.aload_n 0, 1) := by decide +kernel
theorem dX8_reset_12 : decode cX8_reset 12 = .ok (.getfield 10, 3) := by decide +kernel
theorem dX8_reset_15 : decode cX8_reset 15 = .ok (.getfield 128, 3) := by decide +kernel
theorem dX8_reset_18 : decode cX8_reset 18 = .ok (.getfield 132, 3) := by decide +kernel
theorem dX8_reset_21 : decode cX8_reset 21 = .ok (.istore_n 1, 1) := by decide +kernel
theorem dX8_reset_22 : decode cX8_reset 22 = .ok (.aload_n 0, 1) := by decide +kernel
theorem dX8_reset_23 : decode cX8_reset 23 = .ok (.getfield 10, 3) := by decide +kernel
theorem dX8_reset_26 : decode cX8_reset 26 = .ok (.getfield 128, 3) := by decide +kernel
theorem dX8_reset_29 : decode cX8_reset 29 = .ok (.invokevirtual 137, 3) := by decide +kernel
theorem dX8_reset_32 : decode cX8_reset 32 = .ok (.iload_n 1, 1) := by decide +kernel
theorem dX8_reset_33 : decode cX8_reset 33 = .ok (.ireturn, 1) := by decide +kernel
theorem dX8_tapOf_0 : decode cX8_tapOf 0 = .ok (.iload_n 1, 1) := by decide +kernel
theorem dX8_tapOf_1 : decode cX8_tapOf 1 = .ok (.iconst 0, 1) := by decide +kernel
theorem dX8_tapOf_2 : decode cX8_tapOf 2 = .ok (.iconst 4, 1) := by decide +kernel
theorem dX8_tapOf_3 : decode cX8_tapOf 3 = .ok (.invokestatic 140, 3) := by decide +kernel
theorem dX8_tapOf_6 : decode cX8_tapOf 6 = .ok (.ifCond .eq 12, 3) := by decide +kernel
theorem dX8_tapOf_9 : decode cX8_tapOf 9 = .ok (.iload_n 2, 1) := by decide +kernel
theorem dX8_tapOf_10 : decode cX8_tapOf 10 = .ok (.iconst 0, 1) := by decide +kernel
theorem dX8_tapOf_11 : decode cX8_tapOf 11 = .ok (.iconst 4, 1) := by decide +kernel
theorem dX8_tapOf_12 : decode cX8_tapOf 12 = .ok (.invokestatic 140, 3) := by decide +kernel
theorem dX8_tapOf_15 : decode cX8_tapOf 15 = .ok (.ifCond .ne 6, 3) := by decide +kernel
theorem dX8_tapOf_18 : decode cX8_tapOf 18 = .ok (.ldc 79, 2) := by decide +kernel
theorem dX8_tapOf_20 : decode cX8_tapOf 20 = .ok (.ireturn, 1) := by decide +kernel
theorem dX8_tapOf_21 : decode cX8_tapOf 21 = .ok (.aload_n 0, 1) := by decide +kernel
theorem dX8_tapOf_22 : decode cX8_tapOf 22 = .ok (.getfield 10, 3) := by decide +kernel
theorem dX8_tapOf_25 : decode cX8_tapOf 25 = .ok (.iload_n 1, 1) := by decide +kernel
theorem dX8_tapOf_26 : decode cX8_tapOf 26 = .ok (.invokevirtual 80, 3) := by decide +kernel
theorem dX8_tapOf_29 : decode cX8_tapOf 29 = .ok (.ifCond .ne 6, 3) := by decide +kernel
theorem dX8_tapOf_32 : decode cX8_tapOf 32 = .ok (.ldc 144, 2) := by decide +kernel
theorem dX8_tapOf_34 : decode cX8_tapOf 34 = .ok (.ireturn, 1) := by decide +kernel
theorem dX8_tapOf_35 : decode cX8_tapOf 35 = .ok (.iload_n 2, 1) := by decide +kernel
theorem dX8_tapOf_36 : decode cX8_tapOf 36 = .ok (.tableswitch 76 0 3 #[32, 41, 50, 67], 32) := by decide +kernel
theorem dX8_tapOf_68 : decode cX8_tapOf 68 = .ok (.aload_n 0, 1) := by decide +kernel
theorem dX8_tapOf_69 : decode cX8_tapOf 69 = .ok (.getfield 10, 3) := by decide +kernel
theorem dX8_tapOf_72 : decode cX8_tapOf 72 = .ok (.iload_n 1, 1) := by decide +kernel
theorem dX8_tapOf_73 : decode cX8_tapOf 73 = .ok (.invokevirtual 84, 3) := by decide +kernel
theorem dX8_tapOf_76 : decode cX8_tapOf 76 = .ok (.ireturn, 1) := by decide +kernel
theorem dX8_tapOf_77 : decode cX8_tapOf 77 = .ok (.aload_n 0, 1) := by decide +kernel
theorem dX8_tapOf_78 : decode cX8_tapOf 78 = .ok (.getfield 10, 3) := by decide +kernel
theorem dX8_tapOf_81 : decode cX8_tapOf 81 = .ok (.iload_n 1, 1) := by decide +kernel
theorem dX8_tapOf_82 : decode cX8_tapOf 82 = .ok (.invokevirtual 91, 3) := by decide +kernel
theorem dX8_tapOf_85 : decode cX8_tapOf 85 = .ok (.ireturn, 1) := by decide +kernel
theorem dX8_tapOf_86 : decode cX8_tapOf 86 = .ok (.aload_n 0, 1) := by decide +kernel
theorem dX8_tapOf_87 : decode cX8_tapOf 87 = .ok (.getfield 10, 3) := by decide +kernel
theorem dX8_tapOf_90 : decode cX8_tapOf 90 = .ok (.iload_n 1, 1) := by decide +kernel
theorem dX8_tapOf_91 : decode cX8_tapOf 91 = .ok (.invokevirtual 72, 3) := by decide +kernel
theorem dX8_tapOf_94 : decode cX8_tapOf 94 = .ok (.ifCond .eq 7, 3) := by decide +kernel
theorem dX8_tapOf_97 : decode cX8_tapOf 97 = .ok (.iconst 1, 1) := by decide +kernel
theorem dX8_tapOf_98 : decode cX8_tapOf 98 = .ok (.goto 4, 3) := by decide +kernel
theorem dX8_tapOf_101 : decode cX8_tapOf 101 = .ok (.iconst 0, 1) := by decide +kernel
theorem dX8_tapOf_102 : decode cX8_tapOf 102 = .ok (.ireturn, 1) := by decide +kernel
theorem dX8_tapOf_103 : decode cX8_tapOf 103 = .ok (.aload_n 0, 1) := by decide +kernel
theorem dX8_tapOf_104 : decode cX8_tapOf 104 = .ok (.getfield 10, 3) := by decide +kernel
theorem dX8_tapOf_107 : decode cX8_tapOf 107 = .ok (.iload_n 1, 1) := by decide +kernel
theorem dX8_tapOf_108 : decode cX8_tapOf 108 = .ok (.invokevirtual 145, 3) := by decide +kernel
theorem dX8_tapOf_111 : decode cX8_tapOf 111 = .ok (.ireturn, 1) := by decide +kernel
theorem dX8_tapOf_112 : decode cX8_tapOf 112 = .ok (.aload_n 0, 1) := by decide +kernel
theorem dX8_tapOf_113 : decode cX8_tapOf 113 = .ok (.getfield 10, 3) := by decide +kernel
theorem dX8_tapOf_116 : decode cX8_tapOf 116 = .ok (.iload_n 1, 1) := by decide +kernel
theorem dX8_tapOf_117 : decode cX8_tapOf 117 = .ok (.invokevirtual 148, 3) := by decide +kernel
theorem dX8_tapOf_120 : decode cX8_tapOf 120 = .ok (.ireturn, 1) := by decide +kernel
theorem dX8_wordOf_0 : decode cX8_wordOf 0 = .ok (.iload_n 1, 1) := by decide +kernel
theorem dX8_wordOf_1 : decode cX8_wordOf 1 = .ok (.iconst 0, 1) := by decide +kernel
theorem dX8_wordOf_2 : decode cX8_wordOf 2 = .ok (.bipush 63, 2) := by decide +kernel
theorem dX8_wordOf_4 : decode cX8_wordOf 4 = .ok (.invokestatic 140, 3) := by decide +kernel
theorem dX8_wordOf_7 : decode cX8_wordOf 7 = .ok (.ifCond .ne 6, 3) := by decide +kernel
theorem dX8_wordOf_10 : decode cX8_wordOf 10 = .ok (.ldc 79, 2) := by decide +kernel
theorem dX8_wordOf_12 : decode cX8_wordOf 12 = .ok (.ireturn, 1) := by decide +kernel
theorem dX8_wordOf_13 : decode cX8_wordOf 13 = .ok (.iload_n 1, 1) := by decide +kernel
theorem dX8_wordOf_14 : decode cX8_wordOf 14 = .ok (.aload_n 0, 1) := by decide +kernel
theorem dX8_wordOf_15 : decode cX8_wordOf 15 = .ok (.getfield 10, 3) := by decide +kernel
theorem dX8_wordOf_18 : decode cX8_wordOf 18 = .ok (.getfield 105, 3) := by decide +kernel
theorem dX8_wordOf_21 : decode cX8_wordOf 21 = .ok (.getfield 109, 3) := by decide +kernel
theorem dX8_wordOf_24 : decode cX8_wordOf 24 = .ok (.if_icmp .lt 6, 3) := by decide +kernel
theorem dX8_wordOf_27 : decode cX8_wordOf 27 = .ok (.ldc 144, 2) := by decide +kernel
theorem dX8_wordOf_29 : decode cX8_wordOf 29 = .ok (.ireturn, 1) := by decide +kernel
theorem dX8_wordOf_30 : decode cX8_wordOf 30 = .ok (.aload_n 0, 1) := by decide +kernel
theorem dX8_wordOf_31 : decode cX8_wordOf 31 = .ok (.getfield 10, 3) := by decide +kernel
theorem dX8_wordOf_34 : decode cX8_wordOf 34 = .ok (.getfield 105, 3) := by decide +kernel
theorem dX8_wordOf_37 : decode cX8_wordOf 37 = .ok (.iload_n 1, 1) := by decide +kernel
theorem dX8_wordOf_38 : decode cX8_wordOf 38 = .ok (.invokevirtual 151, 3) := by decide +kernel
theorem dX8_wordOf_41 : decode cX8_wordOf 41 = .ok (.ireturn, 1) := by decide +kernel
theorem dX8_outputOf_0 : decode cX8_outputOf 0 = .ok (.iload_n 1, 1) := by decide +kernel
theorem dX8_outputOf_1 : decode cX8_outputOf 1 = .ok (.ifCond .ge 6, 3) := by decide +kernel
theorem dX8_outputOf_4 : decode cX8_outputOf 4 = .ok (.ldc 79, 2) := by decide +kernel
theorem dX8_outputOf_6 : decode cX8_outputOf 6 = .ok (.ireturn, 1) := by decide +kernel
theorem dX8_outputOf_7 : decode cX8_outputOf 7 = .ok (.iload_n 1, 1) := by decide +kernel
theorem dX8_outputOf_8 : decode cX8_outputOf 8 = .ok (.aload_n 0, 1) := by decide +kernel
theorem dX8_outputOf_9 : decode cX8_outputOf 9 = .ok (.getfield 10, 3) := by decide +kernel
theorem dX8_outputOf_12 : decode cX8_outputOf 12 = .ok (.getfield 154, 3) := by decide +kernel
theorem dX8_outputOf_15 : decode cX8_outputOf 15 = .ok (.getfield 158, 3) := by decide +kernel
theorem dX8_outputOf_18 : decode cX8_outputOf 18 = .ok (.if_icmp .lt 6, 3) := by decide +kernel
theorem dX8_outputOf_21 : decode cX8_outputOf 21 = .ok (.ldc 144, 2) := by decide +kernel
theorem dX8_outputOf_23 : decode cX8_outputOf 23 = .ok (.ireturn, 1) := by decide +kernel
theorem dX8_outputOf_24 : decode cX8_outputOf 24 = .ok (.aload_n 0, 1) := by decide +kernel
theorem dX8_outputOf_25 : decode cX8_outputOf 25 = .ok (.getfield 10, 3) := by decide +kernel
theorem dX8_outputOf_28 : decode cX8_outputOf 28 = .ok (.getfield 154, 3) := by decide +kernel
theorem dX8_outputOf_31 : decode cX8_outputOf 31 = .ok (.iload_n 1, 1) := by decide +kernel
theorem dX8_outputOf_32 : decode cX8_outputOf 32 = .ok (.invokevirtual 163, 3) := by decide +kernel
theorem dX8_outputOf_35 : decode cX8_outputOf 35 = .ok (.ireturn, 1) := by decide +kernel
theorem dX8_meter_0 : decode cX8_meter 0 = .ok (.iload_n 1, 1) := by decide +kernel
theorem dX8_meter_1 : decode cX8_meter 1 = .ok (.tableswitch 108 0 4 #[35, 46, 57, 68, 79], 35) := by decide +kernel
theorem dX8_meter_36 : decode cX8_meter 36 = .ok (.aload_n 0, 1) := by decide +kernel
theorem dX8_meter_37 : decode cX8_meter 37 = .ok (.getfield 10, 3) := by decide +kernel
theorem dX8_meter_40 : decode cX8_meter 40 = .ok (.getfield 128, 3) := by decide +kernel
theorem dX8_meter_43 : decode cX8_meter 43 = .ok (.getfield 132, 3) := by decide +kernel
theorem dX8_meter_46 : decode cX8_meter 46 = .ok (.ireturn, 1) := by decide +kernel
theorem dX8_meter_47 : decode cX8_meter 47 = .ok (.aload_n 0, 1) := by decide +kernel
theorem dX8_meter_48 : decode cX8_meter 48 = .ok (.getfield 10, 3) := by decide +kernel
theorem dX8_meter_51 : decode cX8_meter 51 = .ok (.getfield 128, 3) := by decide +kernel
theorem dX8_meter_54 : decode cX8_meter 54 = .ok (.getfield 166, 3) := by decide +kernel
theorem dX8_meter_57 : decode cX8_meter 57 = .ok (.ireturn, 1) := by decide +kernel
theorem dX8_meter_58 : decode cX8_meter 58 = .ok (.aload_n 0, 1) := by decide +kernel
theorem dX8_meter_59 : decode cX8_meter 59 = .ok (.getfield 10, 3) := by decide +kernel
theorem dX8_meter_62 : decode cX8_meter 62 = .ok (.getfield 128, 3) := by decide +kernel
theorem dX8_meter_65 : decode cX8_meter 65 = .ok (.getfield 169, 3) := by decide +kernel
theorem dX8_meter_68 : decode cX8_meter 68 = .ok (.ireturn, 1) := by decide +kernel
theorem dX8_meter_69 : decode cX8_meter 69 = .ok (.aload_n 0, 1) := by decide +kernel
theorem dX8_meter_70 : decode cX8_meter 70 = .ok (.getfield 10, 3) := by decide +kernel
theorem dX8_meter_73 : decode cX8_meter 73 = .ok (.getfield 128, 3) := by decide +kernel
theorem dX8_meter_76 : decode cX8_meter 76 = .ok (.getfield 172, 3) := by decide +kernel
theorem dX8_meter_79 : decode cX8_meter 79 = .ok (.ireturn, 1) := by decide +kernel
theorem dX8_meter_80 : decode cX8_meter 80 = .ok (.aload_n 0, 1) := by decide +kernel
theorem dX8_meter_81 : decode cX8_meter 81 = .ok (.getfield 10, 3) := by decide +kernel
theorem dX8_meter_84 : decode cX8_meter 84 = .ok (.getfield 128, 3) := by decide +kernel
theorem dX8_meter_87 : decode cX8_meter 87 = .ok (.getfield 132, 3) := by decide +kernel
theorem dX8_meter_90 : decode cX8_meter 90 = .ok (.ifCond .ne 8, 3) := by decide +kernel
theorem dX8_meter_93 : decode cX8_meter 93 = .ok (.ldc 144, 2) := by decide +kernel
theorem dX8_meter_95 : decode cX8_meter 95 = .ok (.goto 13, 3) := by decide +kernel
theorem dX8_meter_98 : decode cX8_meter 98 = .ok (.aload_n 0, 1) := by decide +kernel
theorem dX8_meter_99 : decode cX8_meter 99 = .ok (.getfield 10, 3) := by decide +kernel
theorem dX8_meter_102 : decode cX8_meter 102 = .ok (.getfield 128, 3) := by decide +kernel
theorem dX8_meter_105 : decode cX8_meter 105 = .ok (.invokevirtual 175, 3) := by decide +kernel
theorem dX8_meter_108 : decode cX8_meter 108 = .ok (.ireturn, 1) := by decide +kernel
theorem dX8_meter_109 : decode cX8_meter 109 = .ok (.ldc 79, 2) := by decide +kernel
theorem dX8_meter_111 : decode cX8_meter 111 = .ok (.ireturn, 1) := by decide +kernel
theorem dX8_echo_0 : decode cX8_echo 0 = .ok (.iload_n 1, 1) := by decide +kernel
theorem dX8_echo_1 : decode cX8_echo 1 = .ok (.invokestatic 178, 3) := by decide +kernel
theorem dX8_echo_4 : decode cX8_echo 4 = .ok (.ifCond .eq 14, 3) := by decide +kernel
theorem dX8_echo_7 : decode cX8_echo 7 = .ok (.iload_n 2, 1) := by decide +kernel
theorem dX8_echo_8 : decode cX8_echo 8 = .ok (.iconst 0, 1) := by decide +kernel
theorem dX8_echo_9 : decode cX8_echo 9 = .ok (.sipush 200, 3) := by decide +kernel
theorem dX8_echo_12 : decode cX8_echo 12 = .ok (.invokestatic 140, 3) := by decide +kernel
theorem dX8_echo_15 : decode cX8_echo 15 = .ok (.ifCond .ne 6, 3) := by decide +kernel
theorem dX8_echo_18 : decode cX8_echo 18 = .ok (.ldc 79, 2) := by decide +kernel
theorem dX8_echo_20 : decode cX8_echo 20 = .ok (.ireturn, 1) := by decide +kernel
theorem dX8_echo_21 : decode cX8_echo 21 = .ok (.aload_n 0, 1) := by decide +kernel
theorem dX8_echo_22 : decode cX8_echo 22 = .ok (.getfield 16, 3) := by decide +kernel
theorem dX8_echo_25 : decode cX8_echo 25 = .ok (.aload_n 0, 1) := by decide +kernel
theorem dX8_echo_26 : decode cX8_echo 26 = .ok (.getfield 10, 3) := by decide +kernel
theorem dX8_echo_29 : decode cX8_echo 29 = .ok (.invokevirtual 181, 3) := by decide +kernel
theorem dX8_echo_32 : decode cX8_echo 32 = .ok (.aload_n 0, 1) := by decide +kernel
theorem dX8_echo_33 : decode cX8_echo 33 = .ok (.getfield 16, 3) := by decide +kernel
theorem dX8_echo_36 : decode cX8_echo 36 = .ok (.getfield 105, 3) := by decide +kernel
theorem dX8_echo_39 : decode cX8_echo 39 = .ok (.invokevirtual 184, 3) := by decide +kernel
theorem dX8_echo_42 : decode cX8_echo 42 = .ok (.aload_n 0, 1) := by decide +kernel
theorem dX8_echo_43 : decode cX8_echo 43 = .ok (.getfield 16, 3) := by decide +kernel
theorem dX8_echo_46 : decode cX8_echo 46 = .ok (.iload_n 1, 1) := by decide +kernel
theorem dX8_echo_47 : decode cX8_echo 47 = .ok (.invokevirtual 55, 3) := by decide +kernel
theorem dX8_echo_50 : decode cX8_echo 50 = .ok (.istore_n 3, 1) := by decide +kernel
theorem dX8_echo_51 : decode cX8_echo 51 = .ok (.iconst 0, 1) := by decide +kernel
theorem dX8_echo_52 : decode cX8_echo 52 = .ok (.istore 4, 2) := by decide +kernel
theorem dX8_echo_54 : decode cX8_echo 54 = .ok (.iload 4, 2) := by decide +kernel
theorem dX8_echo_56 : decode cX8_echo 56 = .ok (.iload_n 2, 1) := by decide +kernel
theorem dX8_echo_57 : decode cX8_echo 57 = .ok (.if_icmp .ge 18, 3) := by decide +kernel
theorem dX8_echo_60 : decode cX8_echo 60 = .ok (.aload_n 0, 1) := by decide +kernel
theorem dX8_echo_61 : decode cX8_echo 61 = .ok (.getfield 16, 3) := by decide +kernel
theorem dX8_echo_64 : decode cX8_echo 64 = .ok (.iconst 0, 1) := by decide +kernel
theorem dX8_echo_65 : decode cX8_echo 65 = .ok (.invokevirtual 55, 3) := by decide +kernel
theorem dX8_echo_68 : decode cX8_echo 68 = .ok (.istore_n 3, 1) := by decide +kernel
theorem dX8_echo_69 : decode cX8_echo 69 = .ok (.iinc 4 1, 3) := by decide +kernel
theorem dX8_echo_72 : decode cX8_echo 72 = .ok (.goto (-18), 3) := by decide +kernel
theorem dX8_echo_75 : decode cX8_echo 75 = .ok (.iload_n 3, 1) := by decide +kernel
theorem dX8_echo_76 : decode cX8_echo 76 = .ok (.ireturn, 1) := by decide +kernel
theorem dX8_quietAfter_0 : decode cX8_quietAfter 0 = .ok (.iload_n 1, 1) := by decide +kernel
theorem dX8_quietAfter_1 : decode cX8_quietAfter 1 = .ok (.iconst 0, 1) := by decide +kernel
theorem dX8_quietAfter_2 : decode cX8_quietAfter 2 = .ok (.sipush 20000, 3) := by decide +kernel
theorem dX8_quietAfter_5 : decode cX8_quietAfter 5 = .ok (.invokestatic 140, 3) := by decide +kernel
theorem dX8_quietAfter_8 : decode cX8_quietAfter 8 = .ok (.ifCond .ne 6, 3) := by decide +kernel
theorem dX8_quietAfter_11 : decode cX8_quietAfter 11 = .ok (.ldc 79, 2) := by decide +kernel
theorem dX8_quietAfter_13 : decode cX8_quietAfter 13 = .ok (.ireturn, 1) := by decide +kernel
theorem dX8_quietAfter_14 : decode cX8_quietAfter 14 = .ok (.aload_n 0, 1) := by decide +kernel
theorem dX8_quietAfter_15 : decode cX8_quietAfter 15 = .ok (.getfield 16, 3) := by decide +kernel
theorem dX8_quietAfter_18 : decode cX8_quietAfter 18 = .ok (.aload_n 0, 1) := by decide +kernel
theorem dX8_quietAfter_19 : decode cX8_quietAfter 19 = .ok (.getfield 10, 3) := by decide +kernel
theorem dX8_quietAfter_22 : decode cX8_quietAfter 22 = .ok (.invokevirtual 181, 3) := by decide +kernel
theorem dX8_quietAfter_25 : decode cX8_quietAfter 25 = .ok (.aload_n 0, 1) := by decide +kernel
theorem dX8_quietAfter_26 : decode cX8_quietAfter 26 = .ok (.getfield 16, 3) := by decide +kernel
theorem dX8_quietAfter_29 : decode cX8_quietAfter 29 = .ok (.getfield 105, 3) := by decide +kernel
theorem dX8_quietAfter_32 : decode cX8_quietAfter 32 = .ok (.iload_n 1, 1) := by decide +kernel
theorem dX8_quietAfter_33 : decode cX8_quietAfter 33 = .ok (.invokevirtual 187, 3) := by decide +kernel
theorem dX8_quietAfter_36 : decode cX8_quietAfter 36 = .ok (.istore_n 2, 1) := by decide +kernel
theorem dX8_quietAfter_37 : decode cX8_quietAfter 37 = .ok (.iconst 0, 1) := by decide +kernel
theorem dX8_quietAfter_38 : decode cX8_quietAfter 38 = .ok (.istore_n 3, 1) := by decide +kernel
theorem dX8_quietAfter_39 : decode cX8_quietAfter 39 = .ok (.iload_n 2, 1) := by decide +kernel
theorem dX8_quietAfter_40 : decode cX8_quietAfter 40 = .ok (.ifCond .le 84, 3) := by decide +kernel
theorem dX8_quietAfter_43 : decode cX8_quietAfter 43 = .ok (.iload_n 3, 1) := by decide +kernel
theorem dX8_quietAfter_44 : decode cX8_quietAfter 44 = .ok (.sipush 500, 3) := by decide +kernel
theorem dX8_quietAfter_47 : decode cX8_quietAfter 47 = .ok (.if_icmp .ge 77, 3) := by decide +kernel
theorem dX8_quietAfter_50 : decode cX8_quietAfter 50 = .ok (.aload_n 0, 1) := by decide +kernel
theorem dX8_quietAfter_51 : decode cX8_quietAfter 51 = .ok (.getfield 16, 3) := by decide +kernel
theorem dX8_quietAfter_54 : decode cX8_quietAfter 54 = .ok (.getfield 105, 3) := by decide +kernel
theorem dX8_quietAfter_57 : decode cX8_quietAfter 57 = .ok (.aload_n 0, 1) := by decide +kernel
theorem dX8_quietAfter_58 : decode cX8_quietAfter 58 = .ok (.getfield 16, 3) := by decide +kernel
theorem dX8_quietAfter_61 : decode cX8_quietAfter 61 = .ok (.getfield 105, 3) := by decide +kernel
theorem dX8_quietAfter_64 : decode cX8_quietAfter 64 = .ok (.getfield 109, 3) := by decide +kernel
theorem dX8_quietAfter_67 : decode cX8_quietAfter 67 = .ok (.iconst 1, 1) := by decide +kernel
theorem dX8_quietAfter_68 : decode cX8_quietAfter 68 = .ok (.isub, 1) := by decide +kernel
theorem dX8_quietAfter_69 : decode cX8_quietAfter 69 = .ok (.invokevirtual 151, 3) := by decide +kernel
theorem dX8_quietAfter_72 : decode cX8_quietAfter 72 = .ok (.istore 4, 2) := by decide +kernel
theorem dX8_quietAfter_74 : decode cX8_quietAfter 74 = .ok (.aload_n 0, 1) := by decide +kernel
theorem dX8_quietAfter_75 : decode cX8_quietAfter 75 = .ok (.getfield 16, 3) := by decide +kernel
theorem dX8_quietAfter_78 : decode cX8_quietAfter 78 = .ok (.iconst 0, 1) := by decide +kernel
theorem dX8_quietAfter_79 : decode cX8_quietAfter 79 = .ok (.invokevirtual 190, 3) := by decide +kernel
theorem dX8_quietAfter_82 : decode cX8_quietAfter 82 = .ok (.istore 5, 2) := by decide +kernel
theorem dX8_quietAfter_84 : decode cX8_quietAfter 84 = .ok (.iload_n 2, 1) := by decide +kernel
theorem dX8_quietAfter_85 : decode cX8_quietAfter 85 = .ok (.iload 4, 2) := by decide +kernel
theorem dX8_quietAfter_87 : decode cX8_quietAfter 87 = .ok (.invokestatic 193, 3) := by decide +kernel
theorem dX8_quietAfter_90 : decode cX8_quietAfter 90 = .ok (.iload_n 1, 1) := by decide +kernel
theorem dX8_quietAfter_91 : decode cX8_quietAfter 91 = .ok (.if_icmp .le 7, 3) := by decide +kernel
theorem dX8_quietAfter_94 : decode cX8_quietAfter 94 = .ok (.iconst 1, 1) := by decide +kernel
theorem dX8_quietAfter_95 : decode cX8_quietAfter 95 = .ok (.goto 4, 3) := by decide +kernel
theorem dX8_quietAfter_98 : decode cX8_quietAfter 98 = .ok (.iconst 0, 1) := by decide +kernel
theorem dX8_quietAfter_99 : decode cX8_quietAfter 99 = .ok (.isub, 1) := by decide +kernel
theorem dX8_quietAfter_100 : decode cX8_quietAfter 100 = .ok (.istore_n 2, 1) := by decide +kernel
theorem dX8_quietAfter_101 : decode cX8_quietAfter 101 = .ok (.iload_n 2, 1) := by decide +kernel
theorem dX8_quietAfter_102 : decode cX8_quietAfter 102 = .ok (.iload 5, 2) := by decide +kernel
theorem dX8_quietAfter_104 : decode cX8_quietAfter 104 = .ok (.invokestatic 193, 3) := by decide +kernel
theorem dX8_quietAfter_107 : decode cX8_quietAfter 107 = .ok (.iload_n 1, 1) := by decide +kernel
theorem dX8_quietAfter_108 : decode cX8_quietAfter 108 = .ok (.if_icmp .le 7, 3) := by decide +kernel
theorem dX8_quietAfter_111 : decode cX8_quietAfter 111 = .ok (.iconst 1, 1) := by decide +kernel
theorem dX8_quietAfter_112 : decode cX8_quietAfter 112 = .ok (.goto 4, 3) := by decide +kernel
theorem dX8_quietAfter_115 : decode cX8_quietAfter 115 = .ok (.iconst 0, 1) := by decide +kernel
theorem dX8_quietAfter_116 : decode cX8_quietAfter 116 = .ok (.iadd, 1) := by decide +kernel
theorem dX8_quietAfter_117 : decode cX8_quietAfter 117 = .ok (.istore_n 2, 1) := by decide +kernel
theorem dX8_quietAfter_118 : decode cX8_quietAfter 118 = .ok (.iinc 3 1, 3) := by decide +kernel
theorem dX8_quietAfter_121 : decode cX8_quietAfter 121 = .ok (.goto (-82), 3) := by decide +kernel
theorem dX8_quietAfter_124 : decode cX8_quietAfter 124 = .ok (.iload_n 2, 1) := by decide +kernel
theorem dX8_quietAfter_125 : decode cX8_quietAfter 125 = .ok (.ifCond .le 8, 3) := by decide +kernel
theorem dX8_quietAfter_128 : decode cX8_quietAfter 128 = .ok (.ldc 144, 2) := by decide +kernel
theorem dX8_quietAfter_130 : decode cX8_quietAfter 130 = .ok (.goto 4, 3) := by decide +kernel
theorem dX8_quietAfter_133 : decode cX8_quietAfter 133 = .ok (.iload_n 3, 1) := by decide +kernel
theorem dX8_quietAfter_134 : decode cX8_quietAfter 134 = .ok (.ireturn, 1) := by decide +kernel
theorem dX8_loudest_0 : decode cX8_loudest 0 = .ok (.iconst 0, 1) := by decide +kernel
theorem dX8_loudest_1 : decode cX8_loudest 1 = .ok (.istore_n 1, 1) := by decide +kernel
end
section
/-! decode rows (printed by TURN) -/
theorem dX8_loudest_2 : decode cX8_loudest 2 = .ok (.iconst 0, 1) := by decide +kernel
theorem dX8_loudest_3 : decode cX8_loudest 3 = .ok (.istore_n 2, 1) := by decide +kernel
theorem dX8_loudest_4 : decode cX8_loudest 4 = .ok (.iload_n 2, 1) := by decide +kernel
theorem dX8_loudest_5 : decode cX8_loudest 5 = .ok (.iconst 4, 1) := by decide +kernel
theorem dX8_loudest_6 : decode cX8_loudest 6 = .ok (.if_icmp .ge 55, 3) := by decide +kernel
theorem dX8_loudest_9 : decode cX8_loudest 9 = .ok (.aload_n 0, 1) := by decide +kernel
theorem dX8_loudest_10 : decode cX8_loudest 10 = .ok (.getfield 10, 3) := by decide +kernel
theorem dX8_loudest_13 : decode cX8_loudest 13 = .ok (.iload_n 2, 1) := by decide +kernel
theorem dX8_loudest_14 : decode cX8_loudest 14 = .ok (.invokevirtual 80, 3) := by decide +kernel
theorem dX8_loudest_17 : decode cX8_loudest 17 = .ok (.ifCond .eq 38, 3) := by decide +kernel
theorem dX8_loudest_20 : decode cX8_loudest 20 = .ok (.aload_n 0, 1) := by decide +kernel
theorem dX8_loudest_21 : decode cX8_loudest 21 = .ok (.getfield 10, 3) := by decide +kernel
theorem dX8_loudest_24 : decode cX8_loudest 24 = .ok (.iload_n 2, 1) := by decide +kernel
theorem dX8_loudest_25 : decode cX8_loudest 25 = .ok (.invokevirtual 72, 3) := by decide +kernel
theorem dX8_loudest_28 : decode cX8_loudest 28 = .ok (.ifCond .ne 27, 3) := by decide +kernel
theorem dX8_loudest_31 : decode cX8_loudest 31 = .ok (.iload_n 1, 1) := by decide +kernel
theorem dX8_loudest_32 : decode cX8_loudest 32 = .ok (.aload_n 0, 1) := by decide +kernel
theorem dX8_loudest_33 : decode cX8_loudest 33 = .ok (.getfield 10, 3) := by decide +kernel
theorem dX8_loudest_36 : decode cX8_loudest 36 = .ok (.iload_n 2, 1) := by decide +kernel
theorem dX8_loudest_37 : decode cX8_loudest 37 = .ok (.invokevirtual 91, 3) := by decide +kernel
theorem dX8_loudest_40 : decode cX8_loudest 40 = .ok (.aload_n 0, 1) := by decide +kernel
theorem dX8_loudest_41 : decode cX8_loudest 41 = .ok (.getfield 10, 3) := by decide +kernel
theorem dX8_loudest_44 : decode cX8_loudest 44 = .ok (.getfield 198, 3) := by decide +kernel
theorem dX8_loudest_47 : decode cX8_loudest 47 = .ok (.invokestatic 201, 3) := by decide +kernel
theorem dX8_loudest_50 : decode cX8_loudest 50 = .ok (.invokestatic 193, 3) := by decide +kernel
theorem dX8_loudest_53 : decode cX8_loudest 53 = .ok (.iadd, 1) := by decide +kernel
theorem dX8_loudest_54 : decode cX8_loudest 54 = .ok (.istore_n 1, 1) := by decide +kernel
theorem dX8_loudest_55 : decode cX8_loudest 55 = .ok (.iinc 2 1, 3) := by decide +kernel
theorem dX8_loudest_58 : decode cX8_loudest 58 = .ok (.goto (-54), 3) := by decide +kernel
theorem dX8_loudest_61 : decode cX8_loudest 61 = .ok (.iload_n 1, 1) := by decide +kernel
theorem dX8_loudest_62 : decode cX8_loudest 62 = .ok (.ireturn, 1) := by decide +kernel
theorem dX8_safeGain_0 : decode cX8_safeGain 0 = .ok (.iload_n 1, 1) := by decide +kernel
theorem dX8_safeGain_1 : decode cX8_safeGain 1 = .ok (.iconst 1, 1) := by decide +kernel
theorem dX8_safeGain_2 : decode cX8_safeGain 2 = .ok (.sipush 200, 3) := by decide +kernel
theorem dX8_safeGain_5 : decode cX8_safeGain 5 = .ok (.invokestatic 140, 3) := by decide +kernel
theorem dX8_safeGain_8 : decode cX8_safeGain 8 = .ok (.ifCond .eq 14, 3) := by decide +kernel
theorem dX8_safeGain_11 : decode cX8_safeGain 11 = .ok (.iload_n 2, 1) := by decide +kernel
theorem dX8_safeGain_12 : decode cX8_safeGain 12 = .ok (.iconst 0, 1) := by decide +kernel
theorem dX8_safeGain_13 : decode cX8_safeGain 13 = .ok (.sipush 20000, 3) := by decide +kernel
theorem dX8_safeGain_16 : decode cX8_safeGain 16 = .ok (.invokestatic 140, 3) := by decide +kernel
theorem dX8_safeGain_19 : decode cX8_safeGain 19 = .ok (.ifCond .ne 6, 3) := by decide +kernel
theorem dX8_safeGain_22 : decode cX8_safeGain 22 = .ok (.ldc 79, 2) := by decide +kernel
theorem dX8_safeGain_24 : decode cX8_safeGain 24 = .ok (.ireturn, 1) := by decide +kernel
theorem dX8_safeGain_25 : decode cX8_safeGain 25 = .ok (.aload_n 0, 1) := by decide +kernel
theorem dX8_safeGain_26 : decode cX8_safeGain 26 = .ok (.getfield 16, 3) := by decide +kernel
theorem dX8_safeGain_29 : decode cX8_safeGain 29 = .ok (.aload_n 0, 1) := by decide +kernel
theorem dX8_safeGain_30 : decode cX8_safeGain 30 = .ok (.getfield 10, 3) := by decide +kernel
theorem dX8_safeGain_33 : decode cX8_safeGain 33 = .ok (.invokevirtual 181, 3) := by decide +kernel
theorem dX8_safeGain_36 : decode cX8_safeGain 36 = .ok (.iconst 0, 1) := by decide +kernel
theorem dX8_safeGain_37 : decode cX8_safeGain 37 = .ok (.istore_n 3, 1) := by decide +kernel
theorem dX8_safeGain_38 : decode cX8_safeGain 38 = .ok (.sipush 950, 3) := by decide +kernel
theorem dX8_safeGain_41 : decode cX8_safeGain 41 = .ok (.istore 4, 2) := by decide +kernel
theorem dX8_safeGain_43 : decode cX8_safeGain 43 = .ok (.iconst 0, 1) := by decide +kernel
theorem dX8_safeGain_44 : decode cX8_safeGain 44 = .ok (.istore 5, 2) := by decide +kernel
theorem dX8_safeGain_46 : decode cX8_safeGain 46 = .ok (.iload 5, 2) := by decide +kernel
theorem dX8_safeGain_48 : decode cX8_safeGain 48 = .ok (.sipush 950, 3) := by decide +kernel
theorem dX8_safeGain_51 : decode cX8_safeGain 51 = .ok (.if_icmp .gt 48, 3) := by decide +kernel
theorem dX8_safeGain_54 : decode cX8_safeGain 54 = .ok (.iload_n 3, 1) := by decide +kernel
theorem dX8_safeGain_55 : decode cX8_safeGain 55 = .ok (.iload 4, 2) := by decide +kernel
theorem dX8_safeGain_57 : decode cX8_safeGain 57 = .ok (.if_icmp .ge 42, 3) := by decide +kernel
theorem dX8_safeGain_60 : decode cX8_safeGain 60 = .ok (.iload_n 3, 1) := by decide +kernel
theorem dX8_safeGain_61 : decode cX8_safeGain 61 = .ok (.iload 4, 2) := by decide +kernel
theorem dX8_safeGain_63 : decode cX8_safeGain 63 = .ok (.iadd, 1) := by decide +kernel
theorem dX8_safeGain_64 : decode cX8_safeGain 64 = .ok (.iconst 1, 1) := by decide +kernel
theorem dX8_safeGain_65 : decode cX8_safeGain 65 = .ok (.iadd, 1) := by decide +kernel
theorem dX8_safeGain_66 : decode cX8_safeGain 66 = .ok (.iconst 2, 1) := by decide +kernel
theorem dX8_safeGain_67 : decode cX8_safeGain 67 = .ok (.idiv, 1) := by decide +kernel
theorem dX8_safeGain_68 : decode cX8_safeGain 68 = .ok (.istore 6, 2) := by decide +kernel
theorem dX8_safeGain_70 : decode cX8_safeGain 70 = .ok (.aload_n 0, 1) := by decide +kernel
theorem dX8_safeGain_71 : decode cX8_safeGain 71 = .ok (.iload 6, 2) := by decide +kernel
theorem dX8_safeGain_73 : decode cX8_safeGain 73 = .ok (.iload_n 1, 1) := by decide +kernel
theorem dX8_safeGain_74 : decode cX8_safeGain 74 = .ok (.iload_n 2, 1) := by decide +kernel
theorem dX8_safeGain_75 : decode cX8_safeGain 75 = .ok (.invokevirtual 204, 3) := by decide +kernel
theorem dX8_safeGain_78 : decode cX8_safeGain 78 = .ok (.ifCond .eq 9, 3) := by decide +kernel
theorem dX8_safeGain_81 : decode cX8_safeGain 81 = .ok (.iload 6, 2) := by decide +kernel
theorem dX8_safeGain_83 : decode cX8_safeGain 83 = .ok (.istore_n 3, 1) := by decide +kernel
theorem dX8_safeGain_84 : decode cX8_safeGain 84 = .ok (.goto 9, 3) := by decide +kernel
theorem dX8_safeGain_87 : decode cX8_safeGain 87 = .ok (.iload 6, 2) := by decide +kernel
theorem dX8_safeGain_89 : decode cX8_safeGain 89 = .ok (.iconst 1, 1) := by decide +kernel
theorem dX8_safeGain_90 : decode cX8_safeGain 90 = .ok (.isub, 1) := by decide +kernel
theorem dX8_safeGain_91 : decode cX8_safeGain 91 = .ok (.istore 4, 2) := by decide +kernel
theorem dX8_safeGain_93 : decode cX8_safeGain 93 = .ok (.iinc 5 1, 3) := by decide +kernel
theorem dX8_safeGain_96 : decode cX8_safeGain 96 = .ok (.goto (-50), 3) := by decide +kernel
theorem dX8_safeGain_99 : decode cX8_safeGain 99 = .ok (.iload_n 3, 1) := by decide +kernel
theorem dX8_safeGain_100 : decode cX8_safeGain 100 = .ok (.ireturn, 1) := by decide +kernel
theorem dX8_count_0 : decode cX8_count 0 = .ok (.iload_n 1, 1) := by decide +kernel
theorem dX8_count_1 : decode cX8_count 1 = .ok (.tableswitch 195 0 21 #[103, 114, 122, 127, 132, 143, 155, 163, 171, 195, 195, 195, 195, 195, 195, 195, 195, 195, 195, 195, 179, 187], 103) := by decide +kernel
theorem dX8_count_104 : decode cX8_count 104 = .ok (.aload_n 0, 1) := by decide +kernel
theorem dX8_count_105 : decode cX8_count 105 = .ok (.getfield 10, 3) := by decide +kernel
theorem dX8_count_108 : decode cX8_count 108 = .ok (.getfield 105, 3) := by decide +kernel
theorem dX8_count_111 : decode cX8_count 111 = .ok (.getfield 109, 3) := by decide +kernel
theorem dX8_count_114 : decode cX8_count 114 = .ok (.ireturn, 1) := by decide +kernel
theorem dX8_count_115 : decode cX8_count 115 = .ok (.aload_n 0, 1) := by decide +kernel
theorem dX8_count_116 : decode cX8_count 116 = .ok (.getfield 10, 3) := by decide +kernel
theorem dX8_count_119 : decode cX8_count 119 = .ok (.invokevirtual 94, 3) := by decide +kernel
theorem dX8_count_122 : decode cX8_count 122 = .ok (.ireturn, 1) := by decide +kernel
theorem dX8_count_123 : decode cX8_count 123 = .ok (.aload_n 0, 1) := by decide +kernel
theorem dX8_count_124 : decode cX8_count 124 = .ok (.invokevirtual 207, 3) := by decide +kernel
theorem dX8_count_127 : decode cX8_count 127 = .ok (.ireturn, 1) := by decide +kernel
theorem dX8_count_128 : decode cX8_count 128 = .ok (.aload_n 0, 1) := by decide +kernel
theorem dX8_count_129 : decode cX8_count 129 = .ok (.invokevirtual 210, 3) := by decide +kernel
theorem dX8_count_132 : decode cX8_count 132 = .ok (.ireturn, 1) := by decide +kernel
theorem dX8_count_133 : decode cX8_count 133 = .ok (.aload_n 0, 1) := by decide +kernel
theorem dX8_count_134 : decode cX8_count 134 = .ok (.getfield 10, 3) := by decide +kernel
theorem dX8_count_137 : decode cX8_count 137 = .ok (.getfield 105, 3) := by decide +kernel
theorem dX8_count_140 : decode cX8_count 140 = .ok (.invokevirtual 213, 3) := by decide +kernel
theorem dX8_count_143 : decode cX8_count 143 = .ok (.ireturn, 1) := by decide +kernel
theorem dX8_count_144 : decode cX8_count 144 = .ok (.aload_n 0, 1) := by decide +kernel
theorem dX8_count_145 : decode cX8_count 145 = .ok (.getfield 10, 3) := by decide +kernel
theorem dX8_count_148 : decode cX8_count 148 = .ok (.getfield 105, 3) := by decide +kernel
theorem dX8_count_151 : decode cX8_count 151 = .ok (.iconst 0, 1) := by decide +kernel
theorem dX8_count_152 : decode cX8_count 152 = .ok (.invokevirtual 187, 3) := by decide +kernel
theorem dX8_count_155 : decode cX8_count 155 = .ok (.ireturn, 1) := by decide +kernel
theorem dX8_count_156 : decode cX8_count 156 = .ok (.aload_n 0, 1) := by decide +kernel
theorem dX8_count_157 : decode cX8_count 157 = .ok (.getfield 10, 3) := by decide +kernel
theorem dX8_count_160 : decode cX8_count 160 = .ok (.getfield 216, 3) := by decide +kernel
theorem dX8_count_163 : decode cX8_count 163 = .ok (.ireturn, 1) := by decide +kernel
theorem dX8_count_164 : decode cX8_count 164 = .ok (.aload_n 0, 1) := by decide +kernel
theorem dX8_count_165 : decode cX8_count 165 = .ok (.getfield 22, 3) := by decide +kernel
theorem dX8_count_168 : decode cX8_count 168 = .ok (.getfield 219, 3) := by decide +kernel
theorem dX8_count_171 : decode cX8_count 171 = .ok (.ireturn, 1) := by decide +kernel
theorem dX8_count_172 : decode cX8_count 172 = .ok (.aload_n 0, 1) := by decide +kernel
theorem dX8_count_173 : decode cX8_count 173 = .ok (.getfield 29, 3) := by decide +kernel
theorem dX8_count_176 : decode cX8_count 176 = .ok (.getfield 220, 3) := by decide +kernel
theorem dX8_count_179 : decode cX8_count 179 = .ok (.ireturn, 1) := by decide +kernel
theorem dX8_count_180 : decode cX8_count 180 = .ok (.aload_n 0, 1) := by decide +kernel
theorem dX8_count_181 : decode cX8_count 181 = .ok (.getfield 10, 3) := by decide +kernel
theorem dX8_count_184 : decode cX8_count 184 = .ok (.getfield 198, 3) := by decide +kernel
theorem dX8_count_187 : decode cX8_count 187 = .ok (.ireturn, 1) := by decide +kernel
theorem dX8_count_188 : decode cX8_count 188 = .ok (.aload_n 0, 1) := by decide +kernel
theorem dX8_count_189 : decode cX8_count 189 = .ok (.getfield 10, 3) := by decide +kernel
theorem dX8_count_192 : decode cX8_count 192 = .ok (.getfield 221, 3) := by decide +kernel
theorem dX8_count_195 : decode cX8_count 195 = .ok (.ireturn, 1) := by decide +kernel
theorem dX8_count_196 : decode cX8_count 196 = .ok (.ldc 79, 2) := by decide +kernel
theorem dX8_count_198 : decode cX8_count 198 = .ok (.ireturn, 1) := by decide +kernel
theorem dX8_undo_0 : decode cX8_undo 0 = .ok (.aload_n 0, 1) := by decide +kernel
theorem dX8_undo_1 : decode cX8_undo 1 = .ok (.getfield 22, 3) := by decide +kernel
theorem dX8_undo_4 : decode cX8_undo 4 = .ok (.getfield 219, 3) := by decide +kernel
theorem dX8_undo_7 : decode cX8_undo 7 = .ok (.ifCond .ne 6, 3) := by decide +kernel
theorem dX8_undo_10 : decode cX8_undo 10 = .ok (.ldc 83, 2) := by decide +kernel
theorem dX8_undo_12 : decode cX8_undo 12 = .ok (.ireturn, 1) := by decide +kernel
theorem dX8_undo_13 : decode cX8_undo 13 = .ok (.aload_n 0, 1) := by decide +kernel
theorem dX8_undo_14 : decode cX8_undo 14 = .ok (.getfield 22, 3) := by decide +kernel
theorem dX8_undo_17 : decode cX8_undo 17 = .ok (.aload_n 0, 1) := by decide +kernel
theorem dX8_undo_18 : decode cX8_undo 18 = .ok (.getfield 10, 3) := by decide +kernel
theorem dX8_undo_21 : decode cX8_undo 21 = .ok (.invokevirtual 224, 3) := by decide +kernel
theorem dX8_undo_24 : decode cX8_undo 24 = .ok (.aload_n 0, 1) := by decide +kernel
theorem dX8_undo_25 : decode cX8_undo 25 = .ok (.getfield 22, 3) := by decide +kernel
theorem dX8_undo_28 : decode cX8_undo 28 = .ok (.getfield 219, 3) := by decide +kernel
theorem dX8_undo_31 : decode cX8_undo 31 = .ok (.ireturn, 1) := by decide +kernel
theorem dX8_type_0 : decode cX8_type 0 = .ok (.iload_n 1, 1) := by decide +kernel
theorem dX8_type_1 : decode cX8_type 1 = .ok (.bipush 32, 2) := by decide +kernel
theorem dX8_type_3 : decode cX8_type 3 = .ok (.bipush 126, 2) := by decide +kernel
theorem dX8_type_5 : decode cX8_type 5 = .ok (.invokestatic 140, 3) := by decide +kernel
theorem dX8_type_8 : decode cX8_type 8 = .ok (.ifCond .ne 6, 3) := by decide +kernel
theorem dX8_type_11 : decode cX8_type 11 = .ok (.ldc 79, 2) := by decide +kernel
theorem dX8_type_13 : decode cX8_type 13 = .ok (.ireturn, 1) := by decide +kernel
theorem dX8_type_14 : decode cX8_type 14 = .ok (.aload_n 0, 1) := by decide +kernel
theorem dX8_type_15 : decode cX8_type 15 = .ok (.getfield 29, 3) := by decide +kernel
theorem dX8_type_18 : decode cX8_type 18 = .ok (.getfield 220, 3) := by decide +kernel
theorem dX8_type_21 : decode cX8_type 21 = .ok (.bipush 60, 2) := by decide +kernel
theorem dX8_type_23 : decode cX8_type 23 = .ok (.if_icmp .lt 6, 3) := by decide +kernel
theorem dX8_type_26 : decode cX8_type 26 = .ok (.ldc 227, 2) := by decide +kernel
theorem dX8_type_28 : decode cX8_type 28 = .ok (.ireturn, 1) := by decide +kernel
theorem dX8_type_29 : decode cX8_type 29 = .ok (.aload_n 0, 1) := by decide +kernel
theorem dX8_type_30 : decode cX8_type 30 = .ok (.getfield 29, 3) := by decide +kernel
theorem dX8_type_33 : decode cX8_type 33 = .ok (.iload_n 1, 1) := by decide +kernel
theorem dX8_type_34 : decode cX8_type 34 = .ok (.invokevirtual 228, 3) := by decide +kernel
theorem dX8_type_37 : decode cX8_type 37 = .ok (.aload_n 0, 1) := by decide +kernel
theorem dX8_type_38 : decode cX8_type 38 = .ok (.getfield 29, 3) := by decide +kernel
theorem dX8_type_41 : decode cX8_type 41 = .ok (.getfield 220, 3) := by decide +kernel
theorem dX8_type_44 : decode cX8_type 44 = .ok (.ireturn, 1) := by decide +kernel
theorem dX8_clearText_0 : decode cX8_clearText 0 = .ok (.aload_n 0, 1) := by decide +kernel
theorem dX8_clearText_1 : decode cX8_clearText 1 = .ok (.getfield 29, 3) := by decide +kernel
theorem dX8_clearText_4 : decode cX8_clearText 4 = .ok (.getfield 220, 3) := by decide +kernel
theorem dX8_clearText_7 : decode cX8_clearText 7 = .ok (.istore_n 1, 1) := by decide +kernel
theorem dX8_clearText_8 : decode cX8_clearText 8 = .ok (.aload_n 0, 1) := by decide +kernel
theorem dX8_clearText_9 : decode cX8_clearText 9 = .ok (.getfield 29, 3) := by decide +kernel
theorem dX8_clearText_12 : decode cX8_clearText 12 = .ok (.iconst 0, 1) := by decide +kernel
theorem dX8_clearText_13 : decode cX8_clearText 13 = .ok (.putfield 220, 3) := by decide +kernel
theorem dX8_clearText_16 : decode cX8_clearText 16 = .ok (.iload_n 1, 1) := by decide +kernel
theorem dX8_clearText_17 : decode cX8_clearText 17 = .ok (.ireturn, 1) := by decide +kernel
theorem dX8_fault_0 : decode cX8_fault 0 = .ok (.iload_n 1, 1) := by decide +kernel
theorem dX8_fault_1 : decode cX8_fault 1 = .ok (.iconst 0, 1) := by decide +kernel
theorem dX8_fault_2 : decode cX8_fault 2 = .ok (.iconst 2, 1) := by decide +kernel
theorem dX8_fault_3 : decode cX8_fault 3 = .ok (.invokestatic 140, 3) := by decide +kernel
theorem dX8_fault_6 : decode cX8_fault 6 = .ok (.ifCond .ne 6, 3) := by decide +kernel
theorem dX8_fault_9 : decode cX8_fault 9 = .ok (.ldc 79, 2) := by decide +kernel
theorem dX8_fault_11 : decode cX8_fault 11 = .ok (.ireturn, 1) := by decide +kernel
theorem dX8_fault_12 : decode cX8_fault 12 = .ok (.aload_n 0, 1) := by decide +kernel
theorem dX8_fault_13 : decode cX8_fault 13 = .ok (.invokevirtual 231, 3) := by decide +kernel
theorem dX8_fault_16 : decode cX8_fault 16 = .ok (.aload_n 0, 1) := by decide +kernel
theorem dX8_fault_17 : decode cX8_fault 17 = .ok (.getfield 43, 3) := by decide +kernel
theorem dX8_fault_20 : decode cX8_fault 20 = .ok (.getfield 234, 3) := by decide +kernel
theorem dX8_fault_23 : decode cX8_fault 23 = .ok (.ifCond .ne 6, 3) := by decide +kernel
theorem dX8_fault_26 : decode cX8_fault 26 = .ok (.ldc 144, 2) := by decide +kernel
theorem dX8_fault_28 : decode cX8_fault 28 = .ok (.ireturn, 1) := by decide +kernel
theorem dX8_fault_29 : decode cX8_fault 29 = .ok (.iload_n 1, 1) := by decide +kernel
theorem dX8_fault_30 : decode cX8_fault 30 = .ok (.ifCond .ne 11, 3) := by decide +kernel
theorem dX8_fault_33 : decode cX8_fault 33 = .ok (.aload_n 0, 1) := by decide +kernel
theorem dX8_fault_34 : decode cX8_fault 34 = .ok (.getfield 43, 3) := by decide +kernel
theorem dX8_fault_37 : decode cX8_fault 37 = .ok (.getfield 238, 3) := by decide +kernel
theorem dX8_fault_40 : decode cX8_fault 40 = .ok (.ireturn, 1) := by decide +kernel
theorem dX8_fault_41 : decode cX8_fault 41 = .ok (.iload_n 1, 1) := by decide +kernel
theorem dX8_fault_42 : decode cX8_fault 42 = .ok (.iconst 1, 1) := by decide +kernel
theorem dX8_fault_43 : decode cX8_fault 43 = .ok (.if_icmp .ne 13, 3) := by decide +kernel
theorem dX8_fault_46 : decode cX8_fault 46 = .ok (.aload_n 0, 1) := by decide +kernel
theorem dX8_fault_47 : decode cX8_fault 47 = .ok (.getfield 43, 3) := by decide +kernel
theorem dX8_fault_50 : decode cX8_fault 50 = .ok (.getfield 241, 3) := by decide +kernel
theorem dX8_fault_53 : decode cX8_fault 53 = .ok (.goto 10, 3) := by decide +kernel
theorem dX8_fault_56 : decode cX8_fault 56 = .ok (.aload_n 0, 1) := by decide +kernel
theorem dX8_fault_57 : decode cX8_fault 57 = .ok (.getfield 43, 3) := by decide +kernel
theorem dX8_fault_60 : decode cX8_fault 60 = .ok (.getfield 244, 3) := by decide +kernel
theorem dX8_fault_63 : decode cX8_fault 63 = .ok (.ireturn, 1) := by decide +kernel
theorem dX8_play_0 : decode cX8_play 0 = .ok (.aload_n 0, 1) := by decide +kernel
theorem dX8_play_1 : decode cX8_play 1 = .ok (.invokevirtual 231, 3) := by decide +kernel
theorem dX8_play_4 : decode cX8_play 4 = .ok (.aload_n 0, 1) := by decide +kernel
theorem dX8_play_5 : decode cX8_play 5 = .ok (.getfield 43, 3) := by decide +kernel
theorem dX8_play_8 : decode cX8_play 8 = .ok (.getfield 234, 3) := by decide +kernel
theorem dX8_play_11 : decode cX8_play 11 = .ok (.ifCond .eq 6, 3) := by decide +kernel
theorem dX8_play_14 : decode cX8_play 14 = .ok (.ldc 83, 2) := by decide +kernel
theorem dX8_play_16 : decode cX8_play 16 = .ok (.ireturn, 1) := by decide +kernel
theorem dX8_play_17 : decode cX8_play 17 = .ok (.aload_n 0, 1) := by decide +kernel
theorem dX8_play_18 : decode cX8_play 18 = .ok (.getfield 22, 3) := by decide +kernel
theorem dX8_play_21 : decode cX8_play 21 = .ok (.aload_n 0, 1) := by decide +kernel
theorem dX8_play_22 : decode cX8_play 22 = .ok (.getfield 10, 3) := by decide +kernel
theorem dX8_play_25 : decode cX8_play 25 = .ok (.invokevirtual 51, 3) := by decide +kernel
theorem dX8_play_28 : decode cX8_play 28 = .ok (.iconst 0, 1) := by decide +kernel
theorem dX8_play_29 : decode cX8_play 29 = .ok (.istore_n 1, 1) := by decide +kernel
theorem dX8_play_30 : decode cX8_play 30 = .ok (.iconst 0, 1) := by decide +kernel
theorem dX8_play_31 : decode cX8_play 31 = .ok (.istore_n 2, 1) := by decide +kernel
theorem dX8_play_32 : decode cX8_play 32 = .ok (.iload_n 2, 1) := by decide +kernel
theorem dX8_play_33 : decode cX8_play 33 = .ok (.bipush 60, 2) := by decide +kernel
theorem dX8_play_35 : decode cX8_play 35 = .ok (.if_icmp .ge 44, 3) := by decide +kernel
theorem dX8_play_38 : decode cX8_play 38 = .ok (.iload_n 1, 1) := by decide +kernel
theorem dX8_play_39 : decode cX8_play 39 = .ok (.aload_n 0, 1) := by decide +kernel
theorem dX8_play_40 : decode cX8_play 40 = .ok (.getfield 29, 3) := by decide +kernel
theorem dX8_play_43 : decode cX8_play 43 = .ok (.getfield 220, 3) := by decide +kernel
theorem dX8_play_46 : decode cX8_play 46 = .ok (.if_icmp .ge 33, 3) := by decide +kernel
theorem dX8_play_49 : decode cX8_play 49 = .ok (.aload_n 0, 1) := by decide +kernel
theorem dX8_play_50 : decode cX8_play 50 = .ok (.getfield 36, 3) := by decide +kernel
theorem dX8_play_53 : decode cX8_play 53 = .ok (.aload_n 0, 1) := by decide +kernel
theorem dX8_play_54 : decode cX8_play 54 = .ok (.getfield 29, 3) := by decide +kernel
theorem dX8_play_57 : decode cX8_play 57 = .ok (.iload_n 1, 1) := by decide +kernel
theorem dX8_play_58 : decode cX8_play 58 = .ok (.invokevirtual 247, 3) := by decide +kernel
theorem dX8_play_61 : decode cX8_play 61 = .ok (.aload_n 0, 1) := by decide +kernel
theorem dX8_play_62 : decode cX8_play 62 = .ok (.invokevirtual 251, 3) := by decide +kernel
theorem dX8_play_65 : decode cX8_play 65 = .ok (.aload_n 0, 1) := by decide +kernel
theorem dX8_play_66 : decode cX8_play 66 = .ok (.getfield 36, 3) := by decide +kernel
theorem dX8_play_69 : decode cX8_play 69 = .ok (.getfield 254, 3) := by decide +kernel
theorem dX8_play_72 : decode cX8_play 72 = .ok (.istore_n 1, 1) := by decide +kernel
theorem dX8_play_73 : decode cX8_play 73 = .ok (.iinc 2 1, 3) := by decide +kernel
theorem dX8_play_76 : decode cX8_play 76 = .ok (.goto (-44), 3) := by decide +kernel
theorem dX8_play_79 : decode cX8_play 79 = .ok (.iload_n 2, 1) := by decide +kernel
theorem dX8_play_80 : decode cX8_play 80 = .ok (.ireturn, 1) := by decide +kernel
theorem dX8_isWithin_0 : decode cX8_isWithin 0 = .ok (.iload_n 0, 1) := by decide +kernel
theorem dX8_isWithin_1 : decode cX8_isWithin 1 = .ok (.iload_n 1, 1) := by decide +kernel
theorem dX8_isWithin_2 : decode cX8_isWithin 2 = .ok (.if_icmp .lt 12, 3) := by decide +kernel
theorem dX8_isWithin_5 : decode cX8_isWithin 5 = .ok (.iload_n 0, 1) := by decide +kernel
theorem dX8_isWithin_6 : decode cX8_isWithin 6 = .ok (.iload_n 2, 1) := by decide +kernel
theorem dX8_isWithin_7 : decode cX8_isWithin 7 = .ok (.if_icmp .gt 7, 3) := by decide +kernel
theorem dX8_isWithin_10 : decode cX8_isWithin 10 = .ok (.iconst 1, 1) := by decide +kernel
theorem dX8_isWithin_11 : decode cX8_isWithin 11 = .ok (.goto 4, 3) := by decide +kernel
theorem dX8_isWithin_14 : decode cX8_isWithin 14 = .ok (.iconst 0, 1) := by decide +kernel
theorem dX8_isWithin_15 : decode cX8_isWithin 15 = .ok (.ireturn, 1) := by decide +kernel
theorem dX8_isTap_0 : decode cX8_isTap 0 = .ok (.iload_n 0, 1) := by decide +kernel
theorem dX8_isTap_1 : decode cX8_isTap 1 = .ok (.iconst 0, 1) := by decide +kernel
theorem dX8_isTap_2 : decode cX8_isTap 2 = .ok (.iconst 3, 1) := by decide +kernel
theorem dX8_isTap_3 : decode cX8_isTap 3 = .ok (.invokestatic 140, 3) := by decide +kernel
theorem dX8_isTap_6 : decode cX8_isTap 6 = .ok (.ireturn, 1) := by decide +kernel
theorem dX8_isSample_0 : decode cX8_isSample 0 = .ok (.iload_n 0, 1) := by decide +kernel
theorem dX8_isSample_1 : decode cX8_isSample 1 = .ok (.sipush (-20000), 3) := by decide +kernel
theorem dX8_isSample_4 : decode cX8_isSample 4 = .ok (.sipush 20000, 3) := by decide +kernel
theorem dX8_isSample_7 : decode cX8_isSample 7 = .ok (.invokestatic 140, 3) := by decide +kernel
theorem dX8_isSample_10 : decode cX8_isSample 10 = .ok (.ireturn, 1) := by decide +kernel
theorem dX8_isSetting_0 : decode cX8_isSetting 0 = .ok (.iload_n 0, 1) := by decide +kernel
theorem dX8_isSetting_1 : decode cX8_isSetting 1 = .ok (.ifCond .ne 13, 3) := by decide +kernel
theorem dX8_isSetting_4 : decode cX8_isSetting 4 = .ok (.iload_n 1, 1) := by decide +kernel
theorem dX8_isSetting_5 : decode cX8_isSetting 5 = .ok (.bipush 100, 2) := by decide +kernel
theorem dX8_isSetting_7 : decode cX8_isSetting 7 = .ok (.sipush 30000, 3) := by decide +kernel
theorem dX8_isSetting_10 : decode cX8_isSetting 10 = .ok (.invokestatic 140, 3) := by decide +kernel
theorem dX8_isSetting_13 : decode cX8_isSetting 13 = .ok (.ireturn, 1) := by decide +kernel
theorem dX8_isSetting_14 : decode cX8_isSetting 14 = .ok (.iload_n 0, 1) := by decide +kernel
theorem dX8_isSetting_15 : decode cX8_isSetting 15 = .ok (.iconst 1, 1) := by decide +kernel
theorem dX8_isSetting_16 : decode cX8_isSetting 16 = .ok (.if_icmp .ne 16, 3) := by decide +kernel
theorem dX8_isSetting_19 : decode cX8_isSetting 19 = .ok (.iload_n 1, 1) := by decide +kernel
theorem dX8_isSetting_20 : decode cX8_isSetting 20 = .ok (.iconst 0, 1) := by decide +kernel
theorem dX8_isSetting_21 : decode cX8_isSetting 21 = .ok (.iconst 2, 1) := by decide +kernel
theorem dX8_isSetting_22 : decode cX8_isSetting 22 = .ok (.invokestatic 140, 3) := by decide +kernel
theorem dX8_isSetting_25 : decode cX8_isSetting 25 = .ok (.ifCond .eq 7, 3) := by decide +kernel
theorem dX8_isSetting_28 : decode cX8_isSetting 28 = .ok (.iconst 1, 1) := by decide +kernel
theorem dX8_isSetting_29 : decode cX8_isSetting 29 = .ok (.goto 4, 3) := by decide +kernel
theorem dX8_isSetting_32 : decode cX8_isSetting 32 = .ok (.iconst 0, 1) := by decide +kernel
theorem dX8_isSetting_33 : decode cX8_isSetting 33 = .ok (.ireturn, 1) := by decide +kernel
theorem dX8_sampleError_0 : decode cX8_sampleError 0 = .ok (.iload_n 0, 1) := by decide +kernel
theorem dX8_sampleError_1 : decode cX8_sampleError 1 = .ok (.invokestatic 178, 3) := by decide +kernel
theorem dX8_sampleError_4 : decode cX8_sampleError 4 = .ok (.ifCond .eq 7, 3) := by decide +kernel
theorem dX8_sampleError_7 : decode cX8_sampleError 7 = .ok (.iconst 0, 1) := by decide +kernel
theorem dX8_sampleError_8 : decode cX8_sampleError 8 = .ok (.goto 5, 3) := by decide +kernel
theorem dX8_sampleError_11 : decode cX8_sampleError 11 = .ok (.ldc 79, 2) := by decide +kernel
theorem dX8_sampleError_13 : decode cX8_sampleError 13 = .ok (.ireturn, 1) := by decide +kernel
theorem dX8_silenceError_0 : decode cX8_silenceError 0 = .ok (.iload_n 0, 1) := by decide +kernel
theorem dX8_silenceError_1 : decode cX8_silenceError 1 = .ok (.iconst 1, 1) := by decide +kernel
theorem dX8_silenceError_2 : decode cX8_silenceError 2 = .ok (.sipush 200, 3) := by decide +kernel
theorem dX8_silenceError_5 : decode cX8_silenceError 5 = .ok (.invokestatic 140, 3) := by decide +kernel
theorem dX8_silenceError_8 : decode cX8_silenceError 8 = .ok (.ifCond .eq 7, 3) := by decide +kernel
theorem dX8_silenceError_11 : decode cX8_silenceError 11 = .ok (.iconst 0, 1) := by decide +kernel
theorem dX8_silenceError_12 : decode cX8_silenceError 12 = .ok (.goto 5, 3) := by decide +kernel
theorem dX8_silenceError_15 : decode cX8_silenceError 15 = .ok (.ldc 79, 2) := by decide +kernel
theorem dX8_silenceError_17 : decode cX8_silenceError 17 = .ok (.ireturn, 1) := by decide +kernel
theorem dX8_tapError_0 : decode cX8_tapError 0 = .ok (.iload_n 0, 1) := by decide +kernel
theorem dX8_tapError_1 : decode cX8_tapError 1 = .ok (.invokestatic 76, 3) := by decide +kernel
theorem dX8_tapError_4 : decode cX8_tapError 4 = .ok (.ifCond .eq 30, 3) := by decide +kernel
theorem dX8_tapError_7 : decode cX8_tapError 7 = .ok (.iload_n 1, 1) := by decide +kernel
theorem dX8_tapError_8 : decode cX8_tapError 8 = .ok (.iconst 1, 1) := by decide +kernel
theorem dX8_tapError_9 : decode cX8_tapError 9 = .ok (.bipush 64, 2) := by decide +kernel
theorem dX8_tapError_11 : decode cX8_tapError 11 = .ok (.invokestatic 140, 3) := by decide +kernel
theorem dX8_tapError_14 : decode cX8_tapError 14 = .ok (.ifCond .eq 20, 3) := by decide +kernel
theorem dX8_tapError_17 : decode cX8_tapError 17 = .ok (.iload_n 2, 1) := by decide +kernel
theorem dX8_tapError_18 : decode cX8_tapError 18 = .ok (.sipush (-900), 3) := by decide +kernel
theorem dX8_tapError_21 : decode cX8_tapError 21 = .ok (.sipush 900, 3) := by decide +kernel
theorem dX8_tapError_24 : decode cX8_tapError 24 = .ok (.invokestatic 140, 3) := by decide +kernel
theorem dX8_tapError_27 : decode cX8_tapError 27 = .ok (.ifCond .eq 7, 3) := by decide +kernel
theorem dX8_tapError_30 : decode cX8_tapError 30 = .ok (.iconst 1, 1) := by decide +kernel
theorem dX8_tapError_31 : decode cX8_tapError 31 = .ok (.goto 4, 3) := by decide +kernel
theorem dX8_tapError_34 : decode cX8_tapError 34 = .ok (.iconst 0, 1) := by decide +kernel
theorem dX8_tapError_35 : decode cX8_tapError 35 = .ok (.istore_n 3, 1) := by decide +kernel
theorem dX8_tapError_36 : decode cX8_tapError 36 = .ok (.iload_n 3, 1) := by decide +kernel
theorem dX8_tapError_37 : decode cX8_tapError 37 = .ok (.ifCond .eq 7, 3) := by decide +kernel
theorem dX8_tapError_40 : decode cX8_tapError 40 = .ok (.iconst 0, 1) := by decide +kernel
theorem dX8_tapError_41 : decode cX8_tapError 41 = .ok (.goto 5, 3) := by decide +kernel
theorem dX8_tapError_44 : decode cX8_tapError 44 = .ok (.ldc 79, 2) := by decide +kernel
theorem dX8_tapError_46 : decode cX8_tapError 46 = .ok (.ireturn, 1) := by decide +kernel
theorem dX8_feedbackError_0 : decode cX8_feedbackError 0 = .ok (.iload_n 0, 1) := by decide +kernel
theorem dX8_feedbackError_1 : decode cX8_feedbackError 1 = .ok (.iconst 1, 1) := by decide +kernel
theorem dX8_feedbackError_2 : decode cX8_feedbackError 2 = .ok (.bipush 64, 2) := by decide +kernel
theorem dX8_feedbackError_4 : decode cX8_feedbackError 4 = .ok (.invokestatic 140, 3) := by decide +kernel
theorem dX8_feedbackError_7 : decode cX8_feedbackError 7 = .ok (.ifCond .eq 18, 3) := by decide +kernel
theorem dX8_feedbackError_10 : decode cX8_feedbackError 10 = .ok (.iload_n 1, 1) := by decide +kernel
theorem dX8_feedbackError_11 : decode cX8_feedbackError 11 = .ok (.iconst 0, 1) := by decide +kernel
theorem dX8_feedbackError_12 : decode cX8_feedbackError 12 = .ok (.sipush 950, 3) := by decide +kernel
theorem dX8_feedbackError_15 : decode cX8_feedbackError 15 = .ok (.invokestatic 140, 3) := by decide +kernel
theorem dX8_feedbackError_18 : decode cX8_feedbackError 18 = .ok (.ifCond .eq 7, 3) := by decide +kernel
theorem dX8_feedbackError_21 : decode cX8_feedbackError 21 = .ok (.iconst 1, 1) := by decide +kernel
theorem dX8_feedbackError_22 : decode cX8_feedbackError 22 = .ok (.goto 4, 3) := by decide +kernel
theorem dX8_feedbackError_25 : decode cX8_feedbackError 25 = .ok (.iconst 0, 1) := by decide +kernel
theorem dX8_feedbackError_26 : decode cX8_feedbackError 26 = .ok (.istore_n 2, 1) := by decide +kernel
theorem dX8_feedbackError_27 : decode cX8_feedbackError 27 = .ok (.iload_n 2, 1) := by decide +kernel
theorem dX8_feedbackError_28 : decode cX8_feedbackError 28 = .ok (.ifCond .eq 7, 3) := by decide +kernel
theorem dX8_feedbackError_31 : decode cX8_feedbackError 31 = .ok (.iconst 0, 1) := by decide +kernel
theorem dX8_feedbackError_32 : decode cX8_feedbackError 32 = .ok (.goto 5, 3) := by decide +kernel
theorem dX8_feedbackError_35 : decode cX8_feedbackError 35 = .ok (.ldc 79, 2) := by decide +kernel
theorem dX8_feedbackError_37 : decode cX8_feedbackError 37 = .ok (.ireturn, 1) := by decide +kernel
theorem dX8_stealError_0 : decode cX8_stealError 0 = .ok (.iload_n 0, 1) := by decide +kernel
theorem dX8_stealError_1 : decode cX8_stealError 1 = .ok (.iconst 1, 1) := by decide +kernel
theorem dX8_stealError_2 : decode cX8_stealError 2 = .ok (.bipush 48, 2) := by decide +kernel
theorem dX8_stealError_4 : decode cX8_stealError 4 = .ok (.invokestatic 140, 3) := by decide +kernel
theorem dX8_stealError_7 : decode cX8_stealError 7 = .ok (.ifCond .ne 6, 3) := by decide +kernel
theorem dX8_stealError_10 : decode cX8_stealError 10 = .ok (.ldc 79, 2) := by decide +kernel
theorem dX8_stealError_12 : decode cX8_stealError 12 = .ok (.ireturn, 1) := by decide +kernel
theorem dX8_stealError_13 : decode cX8_stealError 13 = .ok (.iload_n 1, 1) := by decide +kernel
theorem dX8_stealError_14 : decode cX8_stealError 14 = .ok (.iload_n 0, 1) := by decide +kernel
theorem dX8_stealError_15 : decode cX8_stealError 15 = .ok (.iadd, 1) := by decide +kernel
theorem dX8_stealError_16 : decode cX8_stealError 16 = .ok (.bipush 48, 2) := by decide +kernel
theorem dX8_stealError_18 : decode cX8_stealError 18 = .ok (.if_icmp .le 8, 3) := by decide +kernel
theorem dX8_stealError_21 : decode cX8_stealError 21 = .ok (.ldc 227, 2) := by decide +kernel
theorem dX8_stealError_23 : decode cX8_stealError 23 = .ok (.goto 4, 3) := by decide +kernel
theorem dX8_stealError_26 : decode cX8_stealError 26 = .ok (.iconst 0, 1) := by decide +kernel
theorem dX8_stealError_27 : decode cX8_stealError 27 = .ok (.ireturn, 1) := by decide +kernel
theorem dX8_giveBackError_0 : decode cX8_giveBackError 0 = .ok (.iload_n 0, 1) := by decide +kernel
theorem dX8_giveBackError_1 : decode cX8_giveBackError 1 = .ok (.iconst 1, 1) := by decide +kernel
theorem dX8_giveBackError_2 : decode cX8_giveBackError 2 = .ok (.bipush 48, 2) := by decide +kernel
theorem dX8_giveBackError_4 : decode cX8_giveBackError 4 = .ok (.invokestatic 140, 3) := by decide +kernel
theorem dX8_giveBackError_7 : decode cX8_giveBackError 7 = .ok (.ifCond .ne 6, 3) := by decide +kernel
theorem dX8_giveBackError_10 : decode cX8_giveBackError 10 = .ok (.ldc 79, 2) := by decide +kernel
theorem dX8_giveBackError_12 : decode cX8_giveBackError 12 = .ok (.ireturn, 1) := by decide +kernel
theorem dX8_giveBackError_13 : decode cX8_giveBackError 13 = .ok (.iload_n 1, 1) := by decide +kernel
theorem dX8_giveBackError_14 : decode cX8_giveBackError 14 = .ok (.iload_n 0, 1) := by decide +kernel
theorem dX8_giveBackError_15 : decode cX8_giveBackError 15 = .ok (.if_icmp .ge 8, 3) := by decide +kernel
theorem dX8_giveBackError_18 : decode cX8_giveBackError 18 = .ok (.ldc 83, 2) := by decide +kernel
theorem dX8_giveBackError_20 : decode cX8_giveBackError 20 = .ok (.goto 4, 3) := by decide +kernel
theorem dX8_giveBackError_23 : decode cX8_giveBackError 23 = .ok (.iconst 0, 1) := by decide +kernel
theorem dX8_giveBackError_24 : decode cX8_giveBackError 24 = .ok (.ireturn, 1) := by decide +kernel
theorem dX8_thousandths_0 : decode cX8_thousandths 0 = .ok (.iload_n 0, 1) := by decide +kernel
theorem dX8_thousandths_1 : decode cX8_thousandths 1 = .ok (.iload_n 1, 1) := by decide +kernel
theorem dX8_thousandths_2 : decode cX8_thousandths 2 = .ok (.imul, 1) := by decide +kernel
theorem dX8_thousandths_3 : decode cX8_thousandths 3 = .ok (.sipush 1000, 3) := by decide +kernel
theorem dX8_thousandths_6 : decode cX8_thousandths 6 = .ok (.idiv, 1) := by decide +kernel
theorem dX8_thousandths_7 : decode cX8_thousandths 7 = .ok (.ireturn, 1) := by decide +kernel
theorem dX8_shaped_0 : decode cX8_shaped 0 = .ok (.iload_n 0, 1) := by decide +kernel
theorem dX8_shaped_1 : decode cX8_shaped 1 = .ok (.invokestatic 193, 3) := by decide +kernel
theorem dX8_shaped_4 : decode cX8_shaped 4 = .ok (.istore_n 3, 1) := by decide +kernel
theorem dX8_shaped_5 : decode cX8_shaped 5 = .ok (.iload_n 3, 1) := by decide +kernel
theorem dX8_shaped_6 : decode cX8_shaped 6 = .ok (.istore 4, 2) := by decide +kernel
theorem dX8_shaped_8 : decode cX8_shaped 8 = .ok (.iload_n 1, 1) := by decide +kernel
theorem dX8_shaped_9 : decode cX8_shaped 9 = .ok (.iconst 1, 1) := by decide +kernel
theorem dX8_shaped_10 : decode cX8_shaped 10 = .ok (.if_icmp .ne 32, 3) := by decide +kernel
theorem dX8_shaped_13 : decode cX8_shaped 13 = .ok (.iload_n 2, 1) := by decide +kernel
theorem dX8_shaped_14 : decode cX8_shaped 14 = .ok (.iconst 2, 1) := by decide +kernel
theorem dX8_shaped_15 : decode cX8_shaped 15 = .ok (.idiv, 1) := by decide +kernel
theorem dX8_shaped_16 : decode cX8_shaped 16 = .ok (.istore 5, 2) := by decide +kernel
theorem dX8_shaped_18 : decode cX8_shaped 18 = .ok (.iload_n 3, 1) := by decide +kernel
theorem dX8_shaped_19 : decode cX8_shaped 19 = .ok (.iload 5, 2) := by decide +kernel
theorem dX8_shaped_21 : decode cX8_shaped 21 = .ok (.if_icmp .le 18, 3) := by decide +kernel
theorem dX8_shaped_24 : decode cX8_shaped 24 = .ok (.iload 5, 2) := by decide +kernel
theorem dX8_shaped_26 : decode cX8_shaped 26 = .ok (.iload_n 3, 1) := by decide +kernel
theorem dX8_shaped_27 : decode cX8_shaped 27 = .ok (.iload 5, 2) := by decide +kernel
theorem dX8_shaped_29 : decode cX8_shaped 29 = .ok (.isub, 1) := by decide +kernel
theorem dX8_shaped_30 : decode cX8_shaped 30 = .ok (.iconst 2, 1) := by decide +kernel
theorem dX8_shaped_31 : decode cX8_shaped 31 = .ok (.idiv, 1) := by decide +kernel
theorem dX8_shaped_32 : decode cX8_shaped 32 = .ok (.iadd, 1) := by decide +kernel
theorem dX8_shaped_33 : decode cX8_shaped 33 = .ok (.iload_n 2, 1) := by decide +kernel
theorem dX8_shaped_34 : decode cX8_shaped 34 = .ok (.invokestatic 257, 3) := by decide +kernel
theorem dX8_shaped_37 : decode cX8_shaped 37 = .ok (.istore 4, 2) := by decide +kernel
theorem dX8_shaped_39 : decode cX8_shaped 39 = .ok (.goto 20, 3) := by decide +kernel
theorem dX8_shaped_42 : decode cX8_shaped 42 = .ok (.iload_n 3, 1) := by decide +kernel
theorem dX8_shaped_43 : decode cX8_shaped 43 = .ok (.iload_n 2, 1) := by decide +kernel
theorem dX8_shaped_44 : decode cX8_shaped 44 = .ok (.if_icmp .le 15, 3) := by decide +kernel
theorem dX8_shaped_47 : decode cX8_shaped 47 = .ok (.iload_n 1, 1) := by decide +kernel
theorem dX8_shaped_48 : decode cX8_shaped 48 = .ok (.iconst 2, 1) := by decide +kernel
theorem dX8_shaped_49 : decode cX8_shaped 49 = .ok (.if_icmp .ne 7, 3) := by decide +kernel
theorem dX8_shaped_52 : decode cX8_shaped 52 = .ok (.iconst 0, 1) := by decide +kernel
theorem dX8_shaped_53 : decode cX8_shaped 53 = .ok (.goto 4, 3) := by decide +kernel
theorem dX8_shaped_56 : decode cX8_shaped 56 = .ok (.iload_n 2, 1) := by decide +kernel
theorem dX8_shaped_57 : decode cX8_shaped 57 = .ok (.istore 4, 2) := by decide +kernel
theorem dX8_shaped_59 : decode cX8_shaped 59 = .ok (.iload_n 0, 1) := by decide +kernel
theorem dX8_shaped_60 : decode cX8_shaped 60 = .ok (.ifCond .ge 9, 3) := by decide +kernel
theorem dX8_shaped_63 : decode cX8_shaped 63 = .ok (.iload 4, 2) := by decide +kernel
theorem dX8_shaped_65 : decode cX8_shaped 65 = .ok (.ineg, 1) := by decide +kernel
theorem dX8_shaped_66 : decode cX8_shaped 66 = .ok (.goto 5, 3) := by decide +kernel
theorem dX8_shaped_69 : decode cX8_shaped 69 = .ok (.iload 4, 2) := by decide +kernel
theorem dX8_shaped_71 : decode cX8_shaped 71 = .ok (.ireturn, 1) := by decide +kernel
theorem dX8_wouldBeQuiet_0 : decode cX8_wouldBeQuiet 0 = .ok (.aload_n 0, 1) := by decide +kernel
theorem dX8_wouldBeQuiet_1 : decode cX8_wouldBeQuiet 1 = .ok (.getfield 16, 3) := by decide +kernel
theorem dX8_wouldBeQuiet_4 : decode cX8_wouldBeQuiet 4 = .ok (.getfield 105, 3) := by decide +kernel
theorem dX8_wouldBeQuiet_7 : decode cX8_wouldBeQuiet 7 = .ok (.invokevirtual 184, 3) := by decide +kernel
theorem dX8_wouldBeQuiet_10 : decode cX8_wouldBeQuiet 10 = .ok (.aload_n 0, 1) := by decide +kernel
theorem dX8_wouldBeQuiet_11 : decode cX8_wouldBeQuiet 11 = .ok (.getfield 16, 3) := by decide +kernel
theorem dX8_wouldBeQuiet_14 : decode cX8_wouldBeQuiet 14 = .ok (.iconst 4, 1) := by decide +kernel
theorem dX8_wouldBeQuiet_15 : decode cX8_wouldBeQuiet 15 = .ok (.aload_n 0, 1) := by decide +kernel
theorem dX8_wouldBeQuiet_16 : decode cX8_wouldBeQuiet 16 = .ok (.getfield 16, 3) := by decide +kernel
theorem dX8_wouldBeQuiet_19 : decode cX8_wouldBeQuiet 19 = .ok (.iconst 4, 1) := by decide +kernel
theorem dX8_wouldBeQuiet_20 : decode cX8_wouldBeQuiet 20 = .ok (.invokevirtual 84, 3) := by decide +kernel
theorem dX8_wouldBeQuiet_23 : decode cX8_wouldBeQuiet 23 = .ok (.iload_n 1, 1) := by decide +kernel
theorem dX8_wouldBeQuiet_24 : decode cX8_wouldBeQuiet 24 = .ok (.invokevirtual 68, 3) := by decide +kernel
theorem dX8_wouldBeQuiet_27 : decode cX8_wouldBeQuiet 27 = .ok (.aload_n 0, 1) := by decide +kernel
theorem dX8_wouldBeQuiet_28 : decode cX8_wouldBeQuiet 28 = .ok (.getfield 16, 3) := by decide +kernel
theorem dX8_wouldBeQuiet_31 : decode cX8_wouldBeQuiet 31 = .ok (.sipush 20000, 3) := by decide +kernel
theorem dX8_wouldBeQuiet_34 : decode cX8_wouldBeQuiet 34 = .ok (.invokevirtual 190, 3) := by decide +kernel
theorem dX8_wouldBeQuiet_37 : decode cX8_wouldBeQuiet 37 = .ok (.pop, 1) := by decide +kernel
theorem dX8_wouldBeQuiet_38 : decode cX8_wouldBeQuiet 38 = .ok (.iconst 0, 1) := by decide +kernel
theorem dX8_wouldBeQuiet_39 : decode cX8_wouldBeQuiet 39 = .ok (.istore 4, 2) := by decide +kernel
theorem dX8_wouldBeQuiet_41 : decode cX8_wouldBeQuiet 41 = .ok (.iload 4, 2) := by decide +kernel
theorem dX8_wouldBeQuiet_43 : decode cX8_wouldBeQuiet 43 = .ok (.iload_n 2, 1) := by decide +kernel
theorem dX8_wouldBeQuiet_44 : decode cX8_wouldBeQuiet 44 = .ok (.if_icmp .ge 18, 3) := by decide +kernel
theorem dX8_wouldBeQuiet_47 : decode cX8_wouldBeQuiet 47 = .ok (.aload_n 0, 1) := by decide +kernel
theorem dX8_wouldBeQuiet_48 : decode cX8_wouldBeQuiet 48 = .ok (.getfield 16, 3) := by decide +kernel
theorem dX8_wouldBeQuiet_51 : decode cX8_wouldBeQuiet 51 = .ok (.iconst 0, 1) := by decide +kernel
theorem dX8_wouldBeQuiet_52 : decode cX8_wouldBeQuiet 52 = .ok (.invokevirtual 190, 3) := by decide +kernel
theorem dX8_wouldBeQuiet_55 : decode cX8_wouldBeQuiet 55 = .ok (.pop, 1) := by decide +kernel
theorem dX8_wouldBeQuiet_56 : decode cX8_wouldBeQuiet 56 = .ok (.iinc 4 1, 3) := by decide +kernel
theorem dX8_wouldBeQuiet_59 : decode cX8_wouldBeQuiet 59 = .ok (.goto (-18), 3) := by decide +kernel
theorem dX8_wouldBeQuiet_62 : decode cX8_wouldBeQuiet 62 = .ok (.aload_n 0, 1) := by decide +kernel
theorem dX8_wouldBeQuiet_63 : decode cX8_wouldBeQuiet 63 = .ok (.getfield 16, 3) := by decide +kernel
theorem dX8_wouldBeQuiet_66 : decode cX8_wouldBeQuiet 66 = .ok (.getfield 105, 3) := by decide +kernel
theorem dX8_wouldBeQuiet_69 : decode cX8_wouldBeQuiet 69 = .ok (.iload_n 3, 1) := by decide +kernel
theorem dX8_wouldBeQuiet_70 : decode cX8_wouldBeQuiet 70 = .ok (.invokevirtual 187, 3) := by decide +kernel
theorem dX8_wouldBeQuiet_73 : decode cX8_wouldBeQuiet 73 = .ok (.ifCond .ne 7, 3) := by decide +kernel
theorem dX8_wouldBeQuiet_76 : decode cX8_wouldBeQuiet 76 = .ok (.iconst 1, 1) := by decide +kernel
theorem dX8_wouldBeQuiet_77 : decode cX8_wouldBeQuiet 77 = .ok (.goto 4, 3) := by decide +kernel
theorem dX8_wouldBeQuiet_80 : decode cX8_wouldBeQuiet 80 = .ok (.iconst 0, 1) := by decide +kernel
theorem dX8_wouldBeQuiet_81 : decode cX8_wouldBeQuiet 81 = .ok (.ireturn, 1) := by decide +kernel
theorem dX8_tapsOn_0 : decode cX8_tapsOn 0 = .ok (.iconst 0, 1) := by decide +kernel
theorem dX8_tapsOn_1 : decode cX8_tapsOn 1 = .ok (.istore_n 1, 1) := by decide +kernel
theorem dX8_tapsOn_2 : decode cX8_tapsOn 2 = .ok (.iconst 0, 1) := by decide +kernel
theorem dX8_tapsOn_3 : decode cX8_tapsOn 3 = .ok (.istore_n 2, 1) := by decide +kernel
theorem dX8_tapsOn_4 : decode cX8_tapsOn 4 = .ok (.iload_n 2, 1) := by decide +kernel
theorem dX8_tapsOn_5 : decode cX8_tapsOn 5 = .ok (.iconst 4, 1) := by decide +kernel
theorem dX8_tapsOn_6 : decode cX8_tapsOn 6 = .ok (.if_icmp .ge 28, 3) := by decide +kernel
theorem dX8_tapsOn_9 : decode cX8_tapsOn 9 = .ok (.iload_n 1, 1) := by decide +kernel
theorem dX8_tapsOn_10 : decode cX8_tapsOn 10 = .ok (.aload_n 0, 1) := by decide +kernel
theorem dX8_tapsOn_11 : decode cX8_tapsOn 11 = .ok (.getfield 10, 3) := by decide +kernel
theorem dX8_tapsOn_14 : decode cX8_tapsOn 14 = .ok (.iload_n 2, 1) := by decide +kernel
theorem dX8_tapsOn_15 : decode cX8_tapsOn 15 = .ok (.invokevirtual 80, 3) := by decide +kernel
theorem dX8_tapsOn_18 : decode cX8_tapsOn 18 = .ok (.ifCond .eq 7, 3) := by decide +kernel
theorem dX8_tapsOn_21 : decode cX8_tapsOn 21 = .ok (.iconst 1, 1) := by decide +kernel
theorem dX8_tapsOn_22 : decode cX8_tapsOn 22 = .ok (.goto 4, 3) := by decide +kernel
theorem dX8_tapsOn_25 : decode cX8_tapsOn 25 = .ok (.iconst 0, 1) := by decide +kernel
theorem dX8_tapsOn_26 : decode cX8_tapsOn 26 = .ok (.iadd, 1) := by decide +kernel
theorem dX8_tapsOn_27 : decode cX8_tapsOn 27 = .ok (.istore_n 1, 1) := by decide +kernel
theorem dX8_tapsOn_28 : decode cX8_tapsOn 28 = .ok (.iinc 2 1, 3) := by decide +kernel
theorem dX8_tapsOn_31 : decode cX8_tapsOn 31 = .ok (.goto (-27), 3) := by decide +kernel
theorem dX8_tapsOn_34 : decode cX8_tapsOn 34 = .ok (.iload_n 1, 1) := by decide +kernel
theorem dX8_tapsOn_35 : decode cX8_tapsOn 35 = .ok (.ireturn, 1) := by decide +kernel
theorem dX8_tapsLost_0 : decode cX8_tapsLost 0 = .ok (.iconst 0, 1) := by decide +kernel
theorem dX8_tapsLost_1 : decode cX8_tapsLost 1 = .ok (.istore_n 1, 1) := by decide +kernel
theorem dX8_tapsLost_2 : decode cX8_tapsLost 2 = .ok (.iconst 0, 1) := by decide +kernel
theorem dX8_tapsLost_3 : decode cX8_tapsLost 3 = .ok (.istore_n 2, 1) := by decide +kernel
theorem dX8_tapsLost_4 : decode cX8_tapsLost 4 = .ok (.iload_n 2, 1) := by decide +kernel
theorem dX8_tapsLost_5 : decode cX8_tapsLost 5 = .ok (.iconst 4, 1) := by decide +kernel
theorem dX8_tapsLost_6 : decode cX8_tapsLost 6 = .ok (.if_icmp .ge 39, 3) := by decide +kernel
theorem dX8_tapsLost_9 : decode cX8_tapsLost 9 = .ok (.iload_n 1, 1) := by decide +kernel
theorem dX8_tapsLost_10 : decode cX8_tapsLost 10 = .ok (.aload_n 0, 1) := by decide +kernel
theorem dX8_tapsLost_11 : decode cX8_tapsLost 11 = .ok (.getfield 10, 3) := by decide +kernel
theorem dX8_tapsLost_14 : decode cX8_tapsLost 14 = .ok (.iload_n 2, 1) := by decide +kernel
theorem dX8_tapsLost_15 : decode cX8_tapsLost 15 = .ok (.invokevirtual 80, 3) := by decide +kernel
theorem dX8_tapsLost_18 : decode cX8_tapsLost 18 = .ok (.ifCond .eq 18, 3) := by decide +kernel
theorem dX8_tapsLost_21 : decode cX8_tapsLost 21 = .ok (.aload_n 0, 1) := by decide +kernel
theorem dX8_tapsLost_22 : decode cX8_tapsLost 22 = .ok (.getfield 10, 3) := by decide +kernel
theorem dX8_tapsLost_25 : decode cX8_tapsLost 25 = .ok (.iload_n 2, 1) := by decide +kernel
theorem dX8_tapsLost_26 : decode cX8_tapsLost 26 = .ok (.invokevirtual 72, 3) := by decide +kernel
theorem dX8_tapsLost_29 : decode cX8_tapsLost 29 = .ok (.ifCond .eq 7, 3) := by decide +kernel
theorem dX8_tapsLost_32 : decode cX8_tapsLost 32 = .ok (.iconst 1, 1) := by decide +kernel
theorem dX8_tapsLost_33 : decode cX8_tapsLost 33 = .ok (.goto 4, 3) := by decide +kernel
theorem dX8_tapsLost_36 : decode cX8_tapsLost 36 = .ok (.iconst 0, 1) := by decide +kernel
theorem dX8_tapsLost_37 : decode cX8_tapsLost 37 = .ok (.iadd, 1) := by decide +kernel
theorem dX8_tapsLost_38 : decode cX8_tapsLost 38 = .ok (.istore_n 1, 1) := by decide +kernel
theorem dX8_tapsLost_39 : decode cX8_tapsLost 39 = .ok (.iinc 2 1, 3) := by decide +kernel
theorem dX8_tapsLost_42 : decode cX8_tapsLost 42 = .ok (.goto (-38), 3) := by decide +kernel
theorem dX8_tapsLost_45 : decode cX8_tapsLost 45 = .ok (.iload_n 1, 1) := by decide +kernel
theorem dX8_tapsLost_46 : decode cX8_tapsLost 46 = .ok (.ireturn, 1) := by decide +kernel
theorem dX8_findFault_0 : decode cX8_findFault 0 = .ok (.aload_n 0, 1) := by decide +kernel
theorem dX8_findFault_1 : decode cX8_findFault 1 = .ok (.getfield 43, 3) := by decide +kernel
theorem dX8_findFault_4 : decode cX8_findFault 4 = .ok (.iconst 0, 1) := by decide +kernel
theorem dX8_findFault_5 : decode cX8_findFault 5 = .ok (.putfield 234, 3) := by decide +kernel
theorem dX8_findFault_8 : decode cX8_findFault 8 = .ok (.aload_n 0, 1) := by decide +kernel
theorem dX8_findFault_9 : decode cX8_findFault 9 = .ok (.getfield 10, 3) := by decide +kernel
theorem dX8_findFault_12 : decode cX8_findFault 12 = .ok (.invokevirtual 94, 3) := by decide +kernel
theorem dX8_findFault_15 : decode cX8_findFault 15 = .ok (.istore_n 1, 1) := by decide +kernel
theorem dX8_findFault_16 : decode cX8_findFault 16 = .ok (.iconst 0, 1) := by decide +kernel
theorem dX8_findFault_17 : decode cX8_findFault 17 = .ok (.istore_n 2, 1) := by decide +kernel
theorem dX8_findFault_18 : decode cX8_findFault 18 = .ok (.iconst 0, 1) := by decide +kernel
theorem dX8_findFault_19 : decode cX8_findFault 19 = .ok (.istore_n 3, 1) := by decide +kernel
theorem dX8_findFault_20 : decode cX8_findFault 20 = .ok (.iload_n 3, 1) := by decide +kernel
theorem dX8_findFault_21 : decode cX8_findFault 21 = .ok (.bipush 60, 2) := by decide +kernel
theorem dX8_findFault_23 : decode cX8_findFault 23 = .ok (.if_icmp .ge 100, 3) := by decide +kernel
theorem dX8_findFault_26 : decode cX8_findFault 26 = .ok (.iload_n 2, 1) := by decide +kernel
theorem dX8_findFault_27 : decode cX8_findFault 27 = .ok (.aload_n 0, 1) := by decide +kernel
theorem dX8_findFault_28 : decode cX8_findFault 28 = .ok (.getfield 29, 3) := by decide +kernel
theorem dX8_findFault_31 : decode cX8_findFault 31 = .ok (.getfield 220, 3) := by decide +kernel
theorem dX8_findFault_34 : decode cX8_findFault 34 = .ok (.if_icmp .ge 89, 3) := by decide +kernel
theorem dX8_findFault_37 : decode cX8_findFault 37 = .ok (.aload_n 0, 1) := by decide +kernel
theorem dX8_findFault_38 : decode cX8_findFault 38 = .ok (.getfield 36, 3) := by decide +kernel
theorem dX8_findFault_41 : decode cX8_findFault 41 = .ok (.aload_n 0, 1) := by decide +kernel
theorem dX8_findFault_42 : decode cX8_findFault 42 = .ok (.getfield 29, 3) := by decide +kernel
theorem dX8_findFault_45 : decode cX8_findFault 45 = .ok (.iload_n 2, 1) := by decide +kernel
theorem dX8_findFault_46 : decode cX8_findFault 46 = .ok (.invokevirtual 247, 3) := by decide +kernel
theorem dX8_findFault_49 : decode cX8_findFault 49 = .ok (.aload_n 0, 1) := by decide +kernel
theorem dX8_findFault_50 : decode cX8_findFault 50 = .ok (.getfield 36, 3) := by decide +kernel
theorem dX8_findFault_53 : decode cX8_findFault 53 = .ok (.getfield 260, 3) := by decide +kernel
theorem dX8_findFault_56 : decode cX8_findFault 56 = .ok (.ifCond .ne 22, 3) := by decide +kernel
theorem dX8_findFault_59 : decode cX8_findFault 59 = .ok (.aload_n 0, 1) := by decide +kernel
theorem dX8_findFault_60 : decode cX8_findFault 60 = .ok (.getfield 43, 3) := by decide +kernel
theorem dX8_findFault_63 : decode cX8_findFault 63 = .ok (.iload_n 2, 1) := by decide +kernel
theorem dX8_findFault_64 : decode cX8_findFault 64 = .ok (.iconst 1, 1) := by decide +kernel
theorem dX8_findFault_65 : decode cX8_findFault 65 = .ok (.aload_n 0, 1) := by decide +kernel
theorem dX8_findFault_66 : decode cX8_findFault 66 = .ok (.getfield 36, 3) := by decide +kernel
theorem dX8_findFault_69 : decode cX8_findFault 69 = .ok (.getfield 254, 3) := by decide +kernel
theorem dX8_findFault_72 : decode cX8_findFault 72 = .ok (.iload_n 2, 1) := by decide +kernel
theorem dX8_findFault_73 : decode cX8_findFault 73 = .ok (.isub, 1) := by decide +kernel
theorem dX8_findFault_74 : decode cX8_findFault 74 = .ok (.invokevirtual 263, 3) := by decide +kernel
theorem dX8_findFault_77 : decode cX8_findFault 77 = .ok (.return_, 1) := by decide +kernel
theorem dX8_findFault_78 : decode cX8_findFault 78 = .ok (.aload_n 0, 1) := by decide +kernel
theorem dX8_findFault_79 : decode cX8_findFault 79 = .ok (.iload_n 1, 1) := by decide +kernel
theorem dX8_findFault_80 : decode cX8_findFault 80 = .ok (.invokevirtual 266, 3) := by decide +kernel
theorem dX8_findFault_83 : decode cX8_findFault 83 = .ok (.istore 4, 2) := by decide +kernel
theorem dX8_findFault_85 : decode cX8_findFault 85 = .ok (.iload 4, 2) := by decide +kernel
theorem dX8_findFault_87 : decode cX8_findFault 87 = .ok (.ifCond .eq 15, 3) := by decide +kernel
theorem dX8_findFault_90 : decode cX8_findFault 90 = .ok (.aload_n 0, 1) := by decide +kernel
theorem dX8_findFault_91 : decode cX8_findFault 91 = .ok (.getfield 43, 3) := by decide +kernel
theorem dX8_findFault_94 : decode cX8_findFault 94 = .ok (.iload_n 2, 1) := by decide +kernel
theorem dX8_findFault_95 : decode cX8_findFault 95 = .ok (.iconst 2, 1) := by decide +kernel
theorem dX8_findFault_96 : decode cX8_findFault 96 = .ok (.iload 4, 2) := by decide +kernel
theorem dX8_findFault_98 : decode cX8_findFault 98 = .ok (.invokevirtual 263, 3) := by decide +kernel
theorem dX8_findFault_101 : decode cX8_findFault 101 = .ok (.return_, 1) := by decide +kernel
theorem dX8_findFault_102 : decode cX8_findFault 102 = .ok (.iload_n 1, 1) := by decide +kernel
theorem dX8_findFault_103 : decode cX8_findFault 103 = .ok (.aload_n 0, 1) := by decide +kernel
theorem dX8_findFault_104 : decode cX8_findFault 104 = .ok (.invokevirtual 269, 3) := by decide +kernel
theorem dX8_findFault_107 : decode cX8_findFault 107 = .ok (.iadd, 1) := by decide +kernel
theorem dX8_findFault_108 : decode cX8_findFault 108 = .ok (.istore_n 1, 1) := by decide +kernel
theorem dX8_findFault_109 : decode cX8_findFault 109 = .ok (.aload_n 0, 1) := by decide +kernel
theorem dX8_findFault_110 : decode cX8_findFault 110 = .ok (.getfield 36, 3) := by decide +kernel
theorem dX8_findFault_113 : decode cX8_findFault 113 = .ok (.getfield 254, 3) := by decide +kernel
theorem dX8_findFault_116 : decode cX8_findFault 116 = .ok (.istore_n 2, 1) := by decide +kernel
theorem dX8_findFault_117 : decode cX8_findFault 117 = .ok (.iinc 3 1, 3) := by decide +kernel
theorem dX8_findFault_120 : decode cX8_findFault 120 = .ok (.goto (-100), 3) := by decide +kernel
theorem dX8_findFault_123 : decode cX8_findFault 123 = .ok (.return_, 1) := by decide +kernel
theorem dX8_orderError_0 : decode cX8_orderError 0 = .ok (.aload_n 0, 1) := by decide +kernel
theorem dX8_orderError_1 : decode cX8_orderError 1 = .ok (.getfield 36, 3) := by decide +kernel
theorem dX8_orderError_4 : decode cX8_orderError 4 = .ok (.iconst 0, 1) := by decide +kernel
theorem dX8_orderError_5 : decode cX8_orderError 5 = .ok (.invokevirtual 272, 3) := by decide +kernel
theorem dX8_orderError_8 : decode cX8_orderError 8 = .ok (.istore_n 2, 1) := by decide +kernel
theorem dX8_orderError_9 : decode cX8_orderError 9 = .ok (.aload_n 0, 1) := by decide +kernel
theorem dX8_orderError_10 : decode cX8_orderError 10 = .ok (.getfield 36, 3) := by decide +kernel
theorem dX8_orderError_13 : decode cX8_orderError 13 = .ok (.iconst 1, 1) := by decide +kernel
theorem dX8_orderError_14 : decode cX8_orderError 14 = .ok (.invokevirtual 272, 3) := by decide +kernel
theorem dX8_orderError_17 : decode cX8_orderError 17 = .ok (.istore_n 3, 1) := by decide +kernel
theorem dX8_orderError_18 : decode cX8_orderError 18 = .ok (.aload_n 0, 1) := by decide +kernel
theorem dX8_orderError_19 : decode cX8_orderError 19 = .ok (.getfield 36, 3) := by decide +kernel
theorem dX8_orderError_22 : decode cX8_orderError 22 = .ok (.getfield 275, 3) := by decide +kernel
theorem dX8_orderError_25 : decode cX8_orderError 25 = .ok (.lookupswitch 87 #[(102, 75), (107, 81), (115, 51), (116, 61), (122, 56)], 51) := by decide +kernel
theorem dX8_orderError_76 : decode cX8_orderError 76 = .ok (.iload_n 2, 1) := by decide +kernel
theorem dX8_orderError_77 : decode cX8_orderError 77 = .ok (.invokestatic 47, 3) := by decide +kernel
theorem dX8_orderError_80 : decode cX8_orderError 80 = .ok (.ireturn, 1) := by decide +kernel
theorem dX8_orderError_81 : decode cX8_orderError 81 = .ok (.iload_n 2, 1) := by decide +kernel
theorem dX8_orderError_82 : decode cX8_orderError 82 = .ok (.invokestatic 58, 3) := by decide +kernel
theorem dX8_orderError_85 : decode cX8_orderError 85 = .ok (.ireturn, 1) := by decide +kernel
theorem dX8_orderError_86 : decode cX8_orderError 86 = .ok (.iload_n 2, 1) := by decide +kernel
theorem dX8_orderError_87 : decode cX8_orderError 87 = .ok (.iload_n 3, 1) := by decide +kernel
theorem dX8_orderError_88 : decode cX8_orderError 88 = .ok (.aload_n 0, 1) := by decide +kernel
theorem dX8_orderError_89 : decode cX8_orderError 89 = .ok (.getfield 36, 3) := by decide +kernel
theorem dX8_orderError_92 : decode cX8_orderError 92 = .ok (.iconst 2, 1) := by decide +kernel
theorem dX8_orderError_93 : decode cX8_orderError 93 = .ok (.invokevirtual 272, 3) := by decide +kernel
theorem dX8_orderError_96 : decode cX8_orderError 96 = .ok (.invokestatic 64, 3) := by decide +kernel
theorem dX8_orderError_99 : decode cX8_orderError 99 = .ok (.ireturn, 1) := by decide +kernel
theorem dX8_orderError_100 : decode cX8_orderError 100 = .ok (.iload_n 2, 1) := by decide +kernel
theorem dX8_orderError_101 : decode cX8_orderError 101 = .ok (.iload_n 3, 1) := by decide +kernel
theorem dX8_orderError_102 : decode cX8_orderError 102 = .ok (.invokestatic 87, 3) := by decide +kernel
theorem dX8_orderError_105 : decode cX8_orderError 105 = .ok (.ireturn, 1) := by decide +kernel
theorem dX8_orderError_106 : decode cX8_orderError 106 = .ok (.iload_n 2, 1) := by decide +kernel
theorem dX8_orderError_107 : decode cX8_orderError 107 = .ok (.iload_n 1, 1) := by decide +kernel
theorem dX8_orderError_108 : decode cX8_orderError 108 = .ok (.invokestatic 98, 3) := by decide +kernel
theorem dX8_orderError_111 : decode cX8_orderError 111 = .ok (.ireturn, 1) := by decide +kernel
theorem dX8_orderError_112 : decode cX8_orderError 112 = .ok (.iload_n 2, 1) := by decide +kernel
theorem dX8_orderError_113 : decode cX8_orderError 113 = .ok (.iload_n 1, 1) := by decide +kernel
theorem dX8_orderError_114 : decode cX8_orderError 114 = .ok (.invokestatic 115, 3) := by decide +kernel
theorem dX8_orderError_117 : decode cX8_orderError 117 = .ok (.ireturn, 1) := by decide +kernel
theorem dX8_wordsThatGo_0 : decode cX8_wordsThatGo 0 = .ok (.aload_n 0, 1) := by decide +kernel
theorem dX8_wordsThatGo_1 : decode cX8_wordsThatGo 1 = .ok (.getfield 36, 3) := by decide +kernel
theorem dX8_wordsThatGo_4 : decode cX8_wordsThatGo 4 = .ok (.iconst 0, 1) := by decide +kernel
theorem dX8_wordsThatGo_5 : decode cX8_wordsThatGo 5 = .ok (.invokevirtual 272, 3) := by decide +kernel
theorem dX8_wordsThatGo_8 : decode cX8_wordsThatGo 8 = .ok (.istore_n 1, 1) := by decide +kernel
theorem dX8_wordsThatGo_9 : decode cX8_wordsThatGo 9 = .ok (.aload_n 0, 1) := by decide +kernel
theorem dX8_wordsThatGo_10 : decode cX8_wordsThatGo 10 = .ok (.getfield 36, 3) := by decide +kernel
theorem dX8_wordsThatGo_13 : decode cX8_wordsThatGo 13 = .ok (.getfield 275, 3) := by decide +kernel
theorem dX8_wordsThatGo_16 : decode cX8_wordsThatGo 16 = .ok (.bipush 107, 2) := by decide +kernel
theorem dX8_wordsThatGo_18 : decode cX8_wordsThatGo 18 = .ok (.if_icmp .ne 5, 3) := by decide +kernel
theorem dX8_wordsThatGo_21 : decode cX8_wordsThatGo 21 = .ok (.iload_n 1, 1) := by decide +kernel
theorem dX8_wordsThatGo_22 : decode cX8_wordsThatGo 22 = .ok (.ireturn, 1) := by decide +kernel
theorem dX8_wordsThatGo_23 : decode cX8_wordsThatGo 23 = .ok (.aload_n 0, 1) := by decide +kernel
theorem dX8_wordsThatGo_24 : decode cX8_wordsThatGo 24 = .ok (.getfield 36, 3) := by decide +kernel
theorem dX8_wordsThatGo_27 : decode cX8_wordsThatGo 27 = .ok (.getfield 275, 3) := by decide +kernel
theorem dX8_wordsThatGo_30 : decode cX8_wordsThatGo 30 = .ok (.bipush 103, 2) := by decide +kernel
theorem dX8_wordsThatGo_32 : decode cX8_wordsThatGo 32 = .ok (.if_icmp .ne 8, 3) := by decide +kernel
theorem dX8_wordsThatGo_35 : decode cX8_wordsThatGo 35 = .ok (.iload_n 1, 1) := by decide +kernel
theorem dX8_wordsThatGo_36 : decode cX8_wordsThatGo 36 = .ok (.ineg, 1) := by decide +kernel
theorem dX8_wordsThatGo_37 : decode cX8_wordsThatGo 37 = .ok (.goto 4, 3) := by decide +kernel
theorem dX8_wordsThatGo_40 : decode cX8_wordsThatGo 40 = .ok (.iconst 0, 1) := by decide +kernel
theorem dX8_wordsThatGo_41 : decode cX8_wordsThatGo 41 = .ok (.ireturn, 1) := by decide +kernel
theorem dX8_doOrder_0 : decode cX8_doOrder 0 = .ok (.aload_n 0, 1) := by decide +kernel
theorem dX8_doOrder_1 : decode cX8_doOrder 1 = .ok (.getfield 36, 3) := by decide +kernel
theorem dX8_doOrder_4 : decode cX8_doOrder 4 = .ok (.iconst 0, 1) := by decide +kernel
theorem dX8_doOrder_5 : decode cX8_doOrder 5 = .ok (.invokevirtual 272, 3) := by decide +kernel
theorem dX8_doOrder_8 : decode cX8_doOrder 8 = .ok (.istore_n 1, 1) := by decide +kernel
theorem dX8_doOrder_9 : decode cX8_doOrder 9 = .ok (.aload_n 0, 1) := by decide +kernel
theorem dX8_doOrder_10 : decode cX8_doOrder 10 = .ok (.getfield 36, 3) := by decide +kernel
theorem dX8_doOrder_13 : decode cX8_doOrder 13 = .ok (.iconst 1, 1) := by decide +kernel
theorem dX8_doOrder_14 : decode cX8_doOrder 14 = .ok (.invokevirtual 272, 3) := by decide +kernel
theorem dX8_doOrder_17 : decode cX8_doOrder 17 = .ok (.istore_n 2, 1) := by decide +kernel
theorem dX8_doOrder_18 : decode cX8_doOrder 18 = .ok (.aload_n 0, 1) := by decide +kernel
theorem dX8_doOrder_19 : decode cX8_doOrder 19 = .ok (.getfield 36, 3) := by decide +kernel
theorem dX8_doOrder_22 : decode cX8_doOrder 22 = .ok (.getfield 275, 3) := by decide +kernel
theorem dX8_doOrder_25 : decode cX8_doOrder 25 = .ok (.lookupswitch 119 #[(102, 95), (107, 108), (115, 51), (116, 75), (122, 63)], 51) := by decide +kernel
theorem dX8_doOrder_76 : decode cX8_doOrder 76 = .ok (.aload_n 0, 1) := by decide +kernel
theorem dX8_doOrder_77 : decode cX8_doOrder 77 = .ok (.getfield 10, 3) := by decide +kernel
theorem dX8_doOrder_80 : decode cX8_doOrder 80 = .ok (.iload_n 1, 1) := by decide +kernel
theorem dX8_doOrder_81 : decode cX8_doOrder 81 = .ok (.invokevirtual 55, 3) := by decide +kernel
theorem dX8_doOrder_84 : decode cX8_doOrder 84 = .ok (.pop, 1) := by decide +kernel
theorem dX8_doOrder_85 : decode cX8_doOrder 85 = .ok (.goto 70, 3) := by decide +kernel
theorem dX8_doOrder_88 : decode cX8_doOrder 88 = .ok (.aload_n 0, 1) := by decide +kernel
theorem dX8_doOrder_89 : decode cX8_doOrder 89 = .ok (.getfield 10, 3) := by decide +kernel
theorem dX8_doOrder_92 : decode cX8_doOrder 92 = .ok (.iload_n 1, 1) := by decide +kernel
theorem dX8_doOrder_93 : decode cX8_doOrder 93 = .ok (.invokevirtual 61, 3) := by decide +kernel
theorem dX8_doOrder_96 : decode cX8_doOrder 96 = .ok (.pop, 1) := by decide +kernel
theorem dX8_doOrder_97 : decode cX8_doOrder 97 = .ok (.goto 58, 3) := by decide +kernel
theorem dX8_doOrder_100 : decode cX8_doOrder 100 = .ok (.aload_n 0, 1) := by decide +kernel
theorem dX8_doOrder_101 : decode cX8_doOrder 101 = .ok (.getfield 10, 3) := by decide +kernel
theorem dX8_doOrder_104 : decode cX8_doOrder 104 = .ok (.iload_n 1, 1) := by decide +kernel
theorem dX8_doOrder_105 : decode cX8_doOrder 105 = .ok (.iload_n 2, 1) := by decide +kernel
theorem dX8_doOrder_106 : decode cX8_doOrder 106 = .ok (.aload_n 0, 1) := by decide +kernel
theorem dX8_doOrder_107 : decode cX8_doOrder 107 = .ok (.getfield 36, 3) := by decide +kernel
theorem dX8_doOrder_110 : decode cX8_doOrder 110 = .ok (.iconst 2, 1) := by decide +kernel
theorem dX8_doOrder_111 : decode cX8_doOrder 111 = .ok (.invokevirtual 272, 3) := by decide +kernel
theorem dX8_doOrder_114 : decode cX8_doOrder 114 = .ok (.invokevirtual 68, 3) := by decide +kernel
theorem dX8_doOrder_117 : decode cX8_doOrder 117 = .ok (.goto 38, 3) := by decide +kernel
theorem dX8_doOrder_120 : decode cX8_doOrder 120 = .ok (.aload_n 0, 1) := by decide +kernel
theorem dX8_doOrder_121 : decode cX8_doOrder 121 = .ok (.getfield 10, 3) := by decide +kernel
theorem dX8_doOrder_124 : decode cX8_doOrder 124 = .ok (.iconst 4, 1) := by decide +kernel
theorem dX8_doOrder_125 : decode cX8_doOrder 125 = .ok (.iload_n 1, 1) := by decide +kernel
theorem dX8_doOrder_126 : decode cX8_doOrder 126 = .ok (.iload_n 2, 1) := by decide +kernel
theorem dX8_doOrder_127 : decode cX8_doOrder 127 = .ok (.invokevirtual 68, 3) := by decide +kernel
theorem dX8_doOrder_130 : decode cX8_doOrder 130 = .ok (.goto 25, 3) := by decide +kernel
theorem dX8_doOrder_133 : decode cX8_doOrder 133 = .ok (.aload_n 0, 1) := by decide +kernel
theorem dX8_doOrder_134 : decode cX8_doOrder 134 = .ok (.getfield 10, 3) := by decide +kernel
theorem dX8_doOrder_137 : decode cX8_doOrder 137 = .ok (.iload_n 1, 1) := by decide +kernel
theorem dX8_doOrder_138 : decode cX8_doOrder 138 = .ok (.invokevirtual 101, 3) := by decide +kernel
theorem dX8_doOrder_141 : decode cX8_doOrder 141 = .ok (.goto 14, 3) := by decide +kernel
theorem dX8_doOrder_144 : decode cX8_doOrder 144 = .ok (.aload_n 0, 1) := by decide +kernel
theorem dX8_doOrder_145 : decode cX8_doOrder 145 = .ok (.getfield 10, 3) := by decide +kernel
theorem dX8_doOrder_148 : decode cX8_doOrder 148 = .ok (.getfield 105, 3) := by decide +kernel
theorem dX8_doOrder_151 : decode cX8_doOrder 151 = .ok (.iload_n 1, 1) := by decide +kernel
theorem dX8_doOrder_152 : decode cX8_doOrder 152 = .ok (.invokevirtual 118, 3) := by decide +kernel
theorem dX8_doOrder_155 : decode cX8_doOrder 155 = .ok (.return_, 1) := by decide +kernel
theorem dX9_init_0 : decode cX9_init 0 = .ok (.aload_n 0, 1) := by decide +kernel
theorem dX9_init_1 : decode cX9_init 1 = .ok (.invokespecial 1, 3) := by decide +kernel
theorem dX9_init_4 : decode cX9_init 4 = .ok (.aload_n 0, 1) := by decide +kernel
theorem dX9_init_5 : decode cX9_init 5 = .ok (.sipush 700, 3) := by decide +kernel
theorem dX9_init_8 : decode cX9_init 8 = .ok (.newarray .int, 2) := by decide +kernel
theorem dX9_init_10 : decode cX9_init 10 = .ok (.putfield 7, 3) := by decide +kernel
theorem dX9_init_13 : decode cX9_init 13 = .ok (.aload_n 0, 1) := by decide +kernel
theorem dX9_init_14 : decode cX9_init 14 = .ok (.bipush 7, 2) := by decide +kernel
theorem dX9_init_16 : decode cX9_init 16 = .ok (.newarray .long, 2) := by decide +kernel
theorem dX9_init_18 : decode cX9_init 18 = .ok (.putfield 13, 3) := by decide +kernel
theorem dX9_init_21 : decode cX9_init 21 = .ok (.aload_n 0, 1) := by decide +kernel
theorem dX9_init_22 : decode cX9_init 22 = .ok (.bipush 60, 2) := by decide +kernel
theorem dX9_init_24 : decode cX9_init 24 = .ok (.newarray .char, 2) := by decide +kernel
theorem dX9_init_26 : decode cX9_init 26 = .ok (.putfield 17, 3) := by decide +kernel
theorem dX9_init_29 : decode cX9_init 29 = .ok (.aload_n 0, 1) := by decide +kernel
theorem dX9_init_30 : decode cX9_init 30 = .ok (.iconst 3, 1) := by decide +kernel
theorem dX9_init_31 : decode cX9_init 31 = .ok (.newarray .int, 2) := by decide +kernel
theorem dX9_init_33 : decode cX9_init 33 = .ok (.putfield 21, 3) := by decide +kernel
theorem dX9_init_36 : decode cX9_init 36 = .ok (.aload_n 0, 1) := by decide +kernel
theorem dX9_init_37 : decode cX9_init 37 = .ok (.getfield 7, 3) := by decide +kernel
theorem dX9_init_40 : decode cX9_init 40 = .ok (.bipush 73, 2) := by decide +kernel
theorem dX9_init_42 : decode cX9_init 42 = .ok (.bipush 16, 2) := by decide +kernel
theorem dX9_init_44 : decode cX9_init 44 = .ok (.iastore, 1) := by decide +kernel
theorem dX9_init_45 : decode cX9_init 45 = .ok (.aload_n 0, 1) := by decide +kernel
theorem dX9_init_46 : decode cX9_init 46 = .ok (.getfield 7, 3) := by decide +kernel
theorem dX9_init_49 : decode cX9_init 49 = .ok (.bipush 79, 2) := by decide +kernel
theorem dX9_init_51 : decode cX9_init 51 = .ok (.sipush 16000, 3) := by decide +kernel
theorem dX9_init_54 : decode cX9_init 54 = .ok (.iastore, 1) := by decide +kernel
theorem dX9_init_55 : decode cX9_init 55 = .ok (.return_, 1) := by decide +kernel
theorem dX9_in_0 : decode cX9_in 0 = .ok (.iload_n 0, 1) := by decide +kernel
theorem dX9_in_1 : decode cX9_in 1 = .ok (.iload_n 1, 1) := by decide +kernel
theorem dX9_in_2 : decode cX9_in 2 = .ok (.if_icmp .lt 12, 3) := by decide +kernel
theorem dX9_in_5 : decode cX9_in 5 = .ok (.iload_n 0, 1) := by decide +kernel
theorem dX9_in_6 : decode cX9_in 6 = .ok (.iload_n 2, 1) := by decide +kernel
theorem dX9_in_7 : decode cX9_in 7 = .ok (.if_icmp .gt 7, 3) := by decide +kernel
theorem dX9_in_10 : decode cX9_in 10 = .ok (.iconst 1, 1) := by decide +kernel
theorem dX9_in_11 : decode cX9_in 11 = .ok (.goto 4, 3) := by decide +kernel
theorem dX9_in_14 : decode cX9_in 14 = .ok (.iconst 0, 1) := by decide +kernel
theorem dX9_in_15 : decode cX9_in 15 = .ok (.ireturn, 1) := by decide +kernel
theorem dX9_amount_0 : decode cX9_amount 0 = .ok (.iload_n 0, 1) := by decide +kernel
theorem dX9_amount_1 : decode cX9_amount 1 = .ok (.ifCond .ge 8, 3) := by decide +kernel
theorem dX9_amount_4 : decode cX9_amount 4 = .ok (.iload_n 0, 1) := by decide +kernel
theorem dX9_amount_5 : decode cX9_amount 5 = .ok (.ineg, 1) := by decide +kernel
theorem dX9_amount_6 : decode cX9_amount 6 = .ok (.goto 4, 3) := by decide +kernel
theorem dX9_amount_9 : decode cX9_amount 9 = .ok (.iload_n 0, 1) := by decide +kernel
theorem dX9_amount_10 : decode cX9_amount 10 = .ok (.ireturn, 1) := by decide +kernel
theorem dX9_copies_0 : decode cX9_copies 0 = .ok (.iconst 0, 1) := by decide +kernel
theorem dX9_copies_1 : decode cX9_copies 1 = .ok (.istore_n 3, 1) := by decide +kernel
theorem dX9_copies_2 : decode cX9_copies 2 = .ok (.iload_n 3, 1) := by decide +kernel
theorem dX9_copies_3 : decode cX9_copies 3 = .ok (.bipush 100, 2) := by decide +kernel
theorem dX9_copies_5 : decode cX9_copies 5 = .ok (.if_icmp .ge 31, 3) := by decide +kernel
theorem dX9_copies_8 : decode cX9_copies 8 = .ok (.aload_n 0, 1) := by decide +kernel
theorem dX9_copies_9 : decode cX9_copies 9 = .ok (.getfield 7, 3) := by decide +kernel
theorem dX9_copies_12 : decode cX9_copies 12 = .ok (.bipush 100, 2) := by decide +kernel
theorem dX9_copies_14 : decode cX9_copies 14 = .ok (.iload_n 2, 1) := by decide +kernel
theorem dX9_copies_15 : decode cX9_copies 15 = .ok (.imul, 1) := by decide +kernel
theorem dX9_copies_16 : decode cX9_copies 16 = .ok (.iload_n 3, 1) := by decide +kernel
theorem dX9_copies_17 : decode cX9_copies 17 = .ok (.iadd, 1) := by decide +kernel
theorem dX9_copies_18 : decode cX9_copies 18 = .ok (.aload_n 0, 1) := by decide +kernel
theorem dX9_copies_19 : decode cX9_copies 19 = .ok (.getfield 7, 3) := by decide +kernel
theorem dX9_copies_22 : decode cX9_copies 22 = .ok (.bipush 100, 2) := by decide +kernel
theorem dX9_copies_24 : decode cX9_copies 24 = .ok (.iload_n 1, 1) := by decide +kernel
theorem dX9_copies_25 : decode cX9_copies 25 = .ok (.imul, 1) := by decide +kernel
theorem dX9_copies_26 : decode cX9_copies 26 = .ok (.iload_n 3, 1) := by decide +kernel
theorem dX9_copies_27 : decode cX9_copies 27 = .ok (.iadd, 1) := by decide +kernel
theorem dX9_copies_28 : decode cX9_copies 28 = .ok (.iaload, 1) := by decide +kernel
theorem dX9_copies_29 : decode cX9_copies 29 = .ok (.iastore, 1) := by decide +kernel
theorem dX9_copies_30 : decode cX9_copies 30 = .ok (.iinc 3 1, 3) := by decide +kernel
theorem dX9_copies_33 : decode cX9_copies 33 = .ok (.goto (-31), 3) := by decide +kernel
theorem dX9_copies_36 : decode cX9_copies 36 = .ok (.aload_n 0, 1) := by decide +kernel
theorem dX9_copies_37 : decode cX9_copies 37 = .ok (.getfield 13, 3) := by decide +kernel
theorem dX9_copies_40 : decode cX9_copies 40 = .ok (.iload_n 2, 1) := by decide +kernel
theorem dX9_copies_41 : decode cX9_copies 41 = .ok (.aload_n 0, 1) := by decide +kernel
theorem dX9_copies_42 : decode cX9_copies 42 = .ok (.getfield 13, 3) := by decide +kernel
theorem dX9_copies_45 : decode cX9_copies 45 = .ok (.iload_n 1, 1) := by decide +kernel
theorem dX9_copies_46 : decode cX9_copies 46 = .ok (.laload, 1) := by decide +kernel
theorem dX9_copies_47 : decode cX9_copies 47 = .ok (.lastore, 1) := by decide +kernel
theorem dX9_copies_48 : decode cX9_copies 48 = .ok (.return_, 1) := by decide +kernel
theorem dX9_keeps_0 : decode cX9_keeps 0 = .ok (.aload_n 0, 1) := by decide +kernel
theorem dX9_keeps_1 : decode cX9_keeps 1 = .ok (.iconst 0, 1) := by decide +kernel
theorem dX9_keeps_2 : decode cX9_keeps 2 = .ok (.bipush 6, 2) := by decide +kernel
theorem dX9_keeps_4 : decode cX9_keeps 4 = .ok (.invokevirtual 24, 3) := by decide +kernel
theorem dX9_keeps_7 : decode cX9_keeps 7 = .ok (.return_, 1) := by decide +kernel
theorem dX9_acted_0 : decode cX9_acted 0 = .ok (.iload_n 1, 1) := by decide +kernel
theorem dX9_acted_1 : decode cX9_acted 1 = .ok (.ldc 28, 2) := by decide +kernel
theorem dX9_acted_3 : decode cX9_acted 3 = .ok (.if_icmp .le 57, 3) := by decide +kernel
theorem dX9_acted_6 : decode cX9_acted 6 = .ok (.aload_n 0, 1) := by decide +kernel
theorem dX9_acted_7 : decode cX9_acted 7 = .ok (.getfield 29, 3) := by decide +kernel
theorem dX9_acted_10 : decode cX9_acted 10 = .ok (.iconst 4, 1) := by decide +kernel
theorem dX9_acted_11 : decode cX9_acted 11 = .ok (.if_icmp .ne 29, 3) := by decide +kernel
theorem dX9_acted_14 : decode cX9_acted 14 = .ok (.iconst 1, 1) := by decide +kernel
theorem dX9_acted_15 : decode cX9_acted 15 = .ok (.istore_n 2, 1) := by decide +kernel
theorem dX9_acted_16 : decode cX9_acted 16 = .ok (.iload_n 2, 1) := by decide +kernel
theorem dX9_acted_17 : decode cX9_acted 17 = .ok (.iconst 4, 1) := by decide +kernel
theorem dX9_acted_18 : decode cX9_acted 18 = .ok (.if_icmp .ge 17, 3) := by decide +kernel
theorem dX9_acted_21 : decode cX9_acted 21 = .ok (.aload_n 0, 1) := by decide +kernel
theorem dX9_acted_22 : decode cX9_acted 22 = .ok (.iload_n 2, 1) := by decide +kernel
theorem dX9_acted_23 : decode cX9_acted 23 = .ok (.iconst 1, 1) := by decide +kernel
theorem dX9_acted_24 : decode cX9_acted 24 = .ok (.iadd, 1) := by decide +kernel
theorem dX9_acted_25 : decode cX9_acted 25 = .ok (.iload_n 2, 1) := by decide +kernel
theorem dX9_acted_26 : decode cX9_acted 26 = .ok (.invokevirtual 24, 3) := by decide +kernel
theorem dX9_acted_29 : decode cX9_acted 29 = .ok (.iinc 2 1, 3) := by decide +kernel
theorem dX9_acted_32 : decode cX9_acted 32 = .ok (.goto (-16), 3) := by decide +kernel
theorem dX9_acted_35 : decode cX9_acted 35 = .ok (.aload_n 0, 1) := by decide +kernel
theorem dX9_acted_36 : decode cX9_acted 36 = .ok (.iconst 3, 1) := by decide +kernel
theorem dX9_acted_37 : decode cX9_acted 37 = .ok (.putfield 29, 3) := by decide +kernel
theorem dX9_acted_40 : decode cX9_acted 40 = .ok (.aload_n 0, 1) := by decide +kernel
theorem dX9_acted_41 : decode cX9_acted 41 = .ok (.dup, 1) := by decide +kernel
theorem dX9_acted_42 : decode cX9_acted 42 = .ok (.getfield 29, 3) := by decide +kernel
theorem dX9_acted_45 : decode cX9_acted 45 = .ok (.iconst 1, 1) := by decide +kernel
theorem dX9_acted_46 : decode cX9_acted 46 = .ok (.iadd, 1) := by decide +kernel
theorem dX9_acted_47 : decode cX9_acted 47 = .ok (.putfield 29, 3) := by decide +kernel
theorem dX9_acted_50 : decode cX9_acted 50 = .ok (.aload_n 0, 1) := by decide +kernel
theorem dX9_acted_51 : decode cX9_acted 51 = .ok (.bipush 6, 2) := by decide +kernel
theorem dX9_acted_53 : decode cX9_acted 53 = .ok (.aload_n 0, 1) := by decide +kernel
theorem dX9_acted_54 : decode cX9_acted 54 = .ok (.getfield 29, 3) := by decide +kernel
theorem dX9_acted_57 : decode cX9_acted 57 = .ok (.invokevirtual 24, 3) := by decide +kernel
theorem dX9_acted_60 : decode cX9_acted 60 = .ok (.iload_n 1, 1) := by decide +kernel
theorem dX9_acted_61 : decode cX9_acted 61 = .ok (.ireturn, 1) := by decide +kernel
theorem dX9_length_0 : decode cX9_length 0 = .ok (.bipush 64, 2) := by decide +kernel
theorem dX9_length_2 : decode cX9_length 2 = .ok (.aload_n 0, 1) := by decide +kernel
theorem dX9_length_3 : decode cX9_length 3 = .ok (.getfield 7, 3) := by decide +kernel
theorem dX9_length_6 : decode cX9_length 6 = .ok (.bipush 100, 2) := by decide +kernel
theorem dX9_length_8 : decode cX9_length 8 = .ok (.iload_n 1, 1) := by decide +kernel
theorem dX9_length_9 : decode cX9_length 9 = .ok (.imul, 1) := by decide +kernel
theorem dX9_length_10 : decode cX9_length 10 = .ok (.bipush 64, 2) := by decide +kernel
theorem dX9_length_12 : decode cX9_length 12 = .ok (.iadd, 1) := by decide +kernel
theorem dX9_length_13 : decode cX9_length 13 = .ok (.iaload, 1) := by decide +kernel
theorem dX9_length_14 : decode cX9_length 14 = .ok (.isub, 1) := by decide +kernel
theorem dX9_length_15 : decode cX9_length 15 = .ok (.ireturn, 1) := by decide +kernel
theorem dX9_isLost_0 : decode cX9_isLost 0 = .ok (.aload_n 0, 1) := by decide +kernel
theorem dX9_isLost_1 : decode cX9_isLost 1 = .ok (.getfield 7, 3) := by decide +kernel
theorem dX9_isLost_4 : decode cX9_isLost 4 = .ok (.bipush 100, 2) := by decide +kernel
theorem dX9_isLost_6 : decode cX9_isLost 6 = .ok (.iload_n 1, 1) := by decide +kernel
theorem dX9_isLost_7 : decode cX9_isLost 7 = .ok (.imul, 1) := by decide +kernel
theorem dX9_isLost_8 : decode cX9_isLost 8 = .ok (.bipush 69, 2) := by decide +kernel
theorem dX9_isLost_10 : decode cX9_isLost 10 = .ok (.iadd, 1) := by decide +kernel
theorem dX9_isLost_11 : decode cX9_isLost 11 = .ok (.iload_n 2, 1) := by decide +kernel
theorem dX9_isLost_12 : decode cX9_isLost 12 = .ok (.iadd, 1) := by decide +kernel
theorem dX9_isLost_13 : decode cX9_isLost 13 = .ok (.iaload, 1) := by decide +kernel
theorem dX9_isLost_14 : decode cX9_isLost 14 = .ok (.aload_n 0, 1) := by decide +kernel
theorem dX9_isLost_15 : decode cX9_isLost 15 = .ok (.iload_n 1, 1) := by decide +kernel
theorem dX9_isLost_16 : decode cX9_isLost 16 = .ok (.invokevirtual 33, 3) := by decide +kernel
theorem dX9_isLost_19 : decode cX9_isLost 19 = .ok (.if_icmp .le 7, 3) := by decide +kernel
theorem dX9_isLost_22 : decode cX9_isLost 22 = .ok (.iconst 1, 1) := by decide +kernel
theorem dX9_isLost_23 : decode cX9_isLost 23 = .ok (.goto 4, 3) := by decide +kernel
theorem dX9_isLost_26 : decode cX9_isLost 26 = .ok (.iconst 0, 1) := by decide +kernel
theorem dX9_isLost_27 : decode cX9_isLost 27 = .ok (.ireturn, 1) := by decide +kernel
theorem dX9_reads_0 : decode cX9_reads 0 = .ok (.aload_n 0, 1) := by decide +kernel
theorem dX9_reads_1 : decode cX9_reads 1 = .ok (.iload_n 1, 1) := by decide +kernel
theorem dX9_reads_2 : decode cX9_reads 2 = .ok (.iload_n 2, 1) := by decide +kernel
theorem dX9_reads_3 : decode cX9_reads 3 = .ok (.invokevirtual 37, 3) := by decide +kernel
theorem dX9_reads_6 : decode cX9_reads 6 = .ok (.ifCond .eq 7, 3) := by decide +kernel
theorem dX9_reads_9 : decode cX9_reads 9 = .ok (.iconst 0, 1) := by decide +kernel
theorem dX9_reads_10 : decode cX9_reads 10 = .ok (.goto 29, 3) := by decide +kernel
theorem dX9_reads_13 : decode cX9_reads 13 = .ok (.aload_n 0, 1) := by decide +kernel
theorem dX9_reads_14 : decode cX9_reads 14 = .ok (.getfield 7, 3) := by decide +kernel
theorem dX9_reads_17 : decode cX9_reads 17 = .ok (.bipush 100, 2) := by decide +kernel
theorem dX9_reads_19 : decode cX9_reads 19 = .ok (.iload_n 1, 1) := by decide +kernel
theorem dX9_reads_20 : decode cX9_reads 20 = .ok (.imul, 1) := by decide +kernel
theorem dX9_reads_21 : decode cX9_reads 21 = .ok (.aload_n 0, 1) := by decide +kernel
theorem dX9_reads_22 : decode cX9_reads 22 = .ok (.getfield 7, 3) := by decide +kernel
theorem dX9_reads_25 : decode cX9_reads 25 = .ok (.bipush 100, 2) := by decide +kernel
theorem dX9_reads_27 : decode cX9_reads 27 = .ok (.iload_n 1, 1) := by decide +kernel
theorem dX9_reads_28 : decode cX9_reads 28 = .ok (.imul, 1) := by decide +kernel
theorem dX9_reads_29 : decode cX9_reads 29 = .ok (.bipush 69, 2) := by decide +kernel
theorem dX9_reads_31 : decode cX9_reads 31 = .ok (.iadd, 1) := by decide +kernel
theorem dX9_reads_32 : decode cX9_reads 32 = .ok (.iload_n 2, 1) := by decide +kernel
theorem dX9_reads_33 : decode cX9_reads 33 = .ok (.iadd, 1) := by decide +kernel
theorem dX9_reads_34 : decode cX9_reads 34 = .ok (.iaload, 1) := by decide +kernel
theorem dX9_reads_35 : decode cX9_reads 35 = .ok (.iadd, 1) := by decide +kernel
theorem dX9_reads_36 : decode cX9_reads 36 = .ok (.iconst 1, 1) := by decide +kernel
theorem dX9_reads_37 : decode cX9_reads 37 = .ok (.isub, 1) := by decide +kernel
theorem dX9_reads_38 : decode cX9_reads 38 = .ok (.iaload, 1) := by decide +kernel
theorem dX9_reads_39 : decode cX9_reads 39 = .ok (.ireturn, 1) := by decide +kernel
theorem dX9_share_0 : decode cX9_share 0 = .ok (.aload_n 0, 1) := by decide +kernel
theorem dX9_share_1 : decode cX9_share 1 = .ok (.getfield 7, 3) := by decide +kernel
theorem dX9_share_4 : decode cX9_share 4 = .ok (.bipush 100, 2) := by decide +kernel
theorem dX9_share_6 : decode cX9_share 6 = .ok (.iload_n 1, 1) := by decide +kernel
theorem dX9_share_7 : decode cX9_share 7 = .ok (.imul, 1) := by decide +kernel
theorem dX9_share_8 : decode cX9_share 8 = .ok (.bipush 74, 2) := by decide +kernel
theorem dX9_share_10 : decode cX9_share 10 = .ok (.iadd, 1) := by decide +kernel
theorem dX9_share_11 : decode cX9_share 11 = .ok (.iload_n 2, 1) := by decide +kernel
theorem dX9_share_12 : decode cX9_share 12 = .ok (.iadd, 1) := by decide +kernel
theorem dX9_share_13 : decode cX9_share 13 = .ok (.iaload, 1) := by decide +kernel
theorem dX9_share_14 : decode cX9_share 14 = .ok (.aload_n 0, 1) := by decide +kernel
theorem dX9_share_15 : decode cX9_share 15 = .ok (.iload_n 1, 1) := by decide +kernel
theorem dX9_share_16 : decode cX9_share 16 = .ok (.iload_n 2, 1) := by decide +kernel
theorem dX9_share_17 : decode cX9_share 17 = .ok (.invokevirtual 41, 3) := by decide +kernel
theorem dX9_share_20 : decode cX9_share 20 = .ok (.imul, 1) := by decide +kernel
theorem dX9_share_21 : decode cX9_share 21 = .ok (.sipush 1000, 3) := by decide +kernel
theorem dX9_share_24 : decode cX9_share 24 = .ok (.idiv, 1) := by decide +kernel
theorem dX9_share_25 : decode cX9_share 25 = .ok (.ireturn, 1) := by decide +kernel
theorem dX9_shaped_0 : decode cX9_shaped 0 = .ok (.aload_n 0, 1) := by decide +kernel
theorem dX9_shaped_1 : decode cX9_shaped 1 = .ok (.getfield 7, 3) := by decide +kernel
theorem dX9_shaped_4 : decode cX9_shaped 4 = .ok (.bipush 100, 2) := by decide +kernel
theorem dX9_shaped_6 : decode cX9_shaped 6 = .ok (.iload_n 1, 1) := by decide +kernel
theorem dX9_shaped_7 : decode cX9_shaped 7 = .ok (.imul, 1) := by decide +kernel
theorem dX9_shaped_8 : decode cX9_shaped 8 = .ok (.bipush 79, 2) := by decide +kernel
theorem dX9_shaped_10 : decode cX9_shaped 10 = .ok (.iadd, 1) := by decide +kernel
theorem dX9_shaped_11 : decode cX9_shaped 11 = .ok (.iaload, 1) := by decide +kernel
theorem dX9_shaped_12 : decode cX9_shaped 12 = .ok (.istore_n 3, 1) := by decide +kernel
theorem dX9_shaped_13 : decode cX9_shaped 13 = .ok (.aload_n 0, 1) := by decide +kernel
theorem dX9_shaped_14 : decode cX9_shaped 14 = .ok (.getfield 7, 3) := by decide +kernel
theorem dX9_shaped_17 : decode cX9_shaped 17 = .ok (.bipush 100, 2) := by decide +kernel
theorem dX9_shaped_19 : decode cX9_shaped 19 = .ok (.iload_n 1, 1) := by decide +kernel
theorem dX9_shaped_20 : decode cX9_shaped 20 = .ok (.imul, 1) := by decide +kernel
theorem dX9_shaped_21 : decode cX9_shaped 21 = .ok (.bipush 80, 2) := by decide +kernel
theorem dX9_shaped_23 : decode cX9_shaped 23 = .ok (.iadd, 1) := by decide +kernel
theorem dX9_shaped_24 : decode cX9_shaped 24 = .ok (.iaload, 1) := by decide +kernel
theorem dX9_shaped_25 : decode cX9_shaped 25 = .ok (.istore 4, 2) := by decide +kernel
theorem dX9_shaped_27 : decode cX9_shaped 27 = .ok (.iload_n 2, 1) := by decide +kernel
theorem dX9_shaped_28 : decode cX9_shaped 28 = .ok (.invokestatic 45, 3) := by decide +kernel
theorem dX9_shaped_31 : decode cX9_shaped 31 = .ok (.istore 5, 2) := by decide +kernel
theorem dX9_shaped_33 : decode cX9_shaped 33 = .ok (.iload 5, 2) := by decide +kernel
theorem dX9_shaped_35 : decode cX9_shaped 35 = .ok (.istore 6, 2) := by decide +kernel
theorem dX9_shaped_37 : decode cX9_shaped 37 = .ok (.iload 4, 2) := by decide +kernel
theorem dX9_shaped_39 : decode cX9_shaped 39 = .ok (.ifCond .ne 20, 3) := by decide +kernel
theorem dX9_shaped_42 : decode cX9_shaped 42 = .ok (.iload 5, 2) := by decide +kernel
theorem dX9_shaped_44 : decode cX9_shaped 44 = .ok (.iload_n 3, 1) := by decide +kernel
theorem dX9_shaped_45 : decode cX9_shaped 45 = .ok (.if_icmp .le 7, 3) := by decide +kernel
theorem dX9_shaped_48 : decode cX9_shaped 48 = .ok (.iload_n 3, 1) := by decide +kernel
theorem dX9_shaped_49 : decode cX9_shaped 49 = .ok (.goto 5, 3) := by decide +kernel
theorem dX9_shaped_52 : decode cX9_shaped 52 = .ok (.iload 5, 2) := by decide +kernel
theorem dX9_shaped_54 : decode cX9_shaped 54 = .ok (.istore 6, 2) := by decide +kernel
theorem dX9_shaped_56 : decode cX9_shaped 56 = .ok (.goto 69, 3) := by decide +kernel
theorem dX9_shaped_59 : decode cX9_shaped 59 = .ok (.iload 4, 2) := by decide +kernel
theorem dX9_shaped_61 : decode cX9_shaped 61 = .ok (.iconst 1, 1) := by decide +kernel
theorem dX9_shaped_62 : decode cX9_shaped 62 = .ok (.if_icmp .ne 49, 3) := by decide +kernel
theorem dX9_shaped_65 : decode cX9_shaped 65 = .ok (.iload_n 3, 1) := by decide +kernel
theorem dX9_shaped_66 : decode cX9_shaped 66 = .ok (.iconst 2, 1) := by decide +kernel
theorem dX9_shaped_67 : decode cX9_shaped 67 = .ok (.idiv, 1) := by decide +kernel
theorem dX9_shaped_68 : decode cX9_shaped 68 = .ok (.istore 7, 2) := by decide +kernel
theorem dX9_shaped_70 : decode cX9_shaped 70 = .ok (.iload 5, 2) := by decide +kernel
theorem dX9_shaped_72 : decode cX9_shaped 72 = .ok (.iload 7, 2) := by decide +kernel
theorem dX9_shaped_74 : decode cX9_shaped 74 = .ok (.if_icmp .le 16, 3) := by decide +kernel
theorem dX9_shaped_77 : decode cX9_shaped 77 = .ok (.iload 7, 2) := by decide +kernel
theorem dX9_shaped_79 : decode cX9_shaped 79 = .ok (.iload 5, 2) := by decide +kernel
theorem dX9_shaped_81 : decode cX9_shaped 81 = .ok (.iload 7, 2) := by decide +kernel
theorem dX9_shaped_83 : decode cX9_shaped 83 = .ok (.isub, 1) := by decide +kernel
theorem dX9_shaped_84 : decode cX9_shaped 84 = .ok (.iconst 2, 1) := by decide +kernel
theorem dX9_shaped_85 : decode cX9_shaped 85 = .ok (.idiv, 1) := by decide +kernel
theorem dX9_shaped_86 : decode cX9_shaped 86 = .ok (.iadd, 1) := by decide +kernel
theorem dX9_shaped_87 : decode cX9_shaped 87 = .ok (.goto 5, 3) := by decide +kernel
theorem dX9_shaped_90 : decode cX9_shaped 90 = .ok (.iload 5, 2) := by decide +kernel
theorem dX9_shaped_92 : decode cX9_shaped 92 = .ok (.istore 6, 2) := by decide +kernel
theorem dX9_shaped_94 : decode cX9_shaped 94 = .ok (.iload 6, 2) := by decide +kernel
theorem dX9_shaped_96 : decode cX9_shaped 96 = .ok (.iload_n 3, 1) := by decide +kernel
theorem dX9_shaped_97 : decode cX9_shaped 97 = .ok (.if_icmp .le 7, 3) := by decide +kernel
theorem dX9_shaped_100 : decode cX9_shaped 100 = .ok (.iload_n 3, 1) := by decide +kernel
theorem dX9_shaped_101 : decode cX9_shaped 101 = .ok (.goto 5, 3) := by decide +kernel
theorem dX9_shaped_104 : decode cX9_shaped 104 = .ok (.iload 6, 2) := by decide +kernel
theorem dX9_shaped_106 : decode cX9_shaped 106 = .ok (.istore 6, 2) := by decide +kernel
theorem dX9_shaped_108 : decode cX9_shaped 108 = .ok (.goto 17, 3) := by decide +kernel
theorem dX9_shaped_111 : decode cX9_shaped 111 = .ok (.iload 5, 2) := by decide +kernel
theorem dX9_shaped_113 : decode cX9_shaped 113 = .ok (.iload_n 3, 1) := by decide +kernel
theorem dX9_shaped_114 : decode cX9_shaped 114 = .ok (.if_icmp .le 7, 3) := by decide +kernel
theorem dX9_shaped_117 : decode cX9_shaped 117 = .ok (.iconst 0, 1) := by decide +kernel
theorem dX9_shaped_118 : decode cX9_shaped 118 = .ok (.goto 5, 3) := by decide +kernel
theorem dX9_shaped_121 : decode cX9_shaped 121 = .ok (.iload 5, 2) := by decide +kernel
theorem dX9_shaped_123 : decode cX9_shaped 123 = .ok (.istore 6, 2) := by decide +kernel
theorem dX9_shaped_125 : decode cX9_shaped 125 = .ok (.iload_n 2, 1) := by decide +kernel
theorem dX9_shaped_126 : decode cX9_shaped 126 = .ok (.ifCond .ge 9, 3) := by decide +kernel
theorem dX9_shaped_129 : decode cX9_shaped 129 = .ok (.iload 6, 2) := by decide +kernel
theorem dX9_shaped_131 : decode cX9_shaped 131 = .ok (.ineg, 1) := by decide +kernel
theorem dX9_shaped_132 : decode cX9_shaped 132 = .ok (.goto 5, 3) := by decide +kernel
theorem dX9_shaped_135 : decode cX9_shaped 135 = .ok (.iload 6, 2) := by decide +kernel
theorem dX9_shaped_137 : decode cX9_shaped 137 = .ok (.ireturn, 1) := by decide +kernel
theorem dX9_goes_0 : decode cX9_goes 0 = .ok (.bipush 100, 2) := by decide +kernel
theorem dX9_goes_2 : decode cX9_goes 2 = .ok (.iload_n 1, 1) := by decide +kernel
theorem dX9_goes_3 : decode cX9_goes 3 = .ok (.imul, 1) := by decide +kernel
theorem dX9_goes_4 : decode cX9_goes 4 = .ok (.istore_n 3, 1) := by decide +kernel
theorem dX9_goes_5 : decode cX9_goes 5 = .ok (.iload_n 2, 1) := by decide +kernel
theorem dX9_goes_6 : decode cX9_goes 6 = .ok (.istore 4, 2) := by decide +kernel
theorem dX9_goes_8 : decode cX9_goes 8 = .ok (.iconst 0, 1) := by decide +kernel
theorem dX9_goes_9 : decode cX9_goes 9 = .ok (.istore 5, 2) := by decide +kernel
theorem dX9_goes_11 : decode cX9_goes 11 = .ok (.iload 5, 2) := by decide +kernel
theorem dX9_goes_13 : decode cX9_goes 13 = .ok (.iconst 4, 1) := by decide +kernel
theorem dX9_goes_14 : decode cX9_goes 14 = .ok (.if_icmp .ge 41, 3) := by decide +kernel
theorem dX9_goes_17 : decode cX9_goes 17 = .ok (.iload 4, 2) := by decide +kernel
theorem dX9_goes_19 : decode cX9_goes 19 = .ok (.aload_n 0, 1) := by decide +kernel
theorem dX9_goes_20 : decode cX9_goes 20 = .ok (.getfield 7, 3) := by decide +kernel
theorem dX9_goes_23 : decode cX9_goes 23 = .ok (.iload_n 3, 1) := by decide +kernel
theorem dX9_goes_24 : decode cX9_goes 24 = .ok (.bipush 65, 2) := by decide +kernel
theorem dX9_goes_26 : decode cX9_goes 26 = .ok (.iadd, 1) := by decide +kernel
theorem dX9_goes_27 : decode cX9_goes 27 = .ok (.iload 5, 2) := by decide +kernel
theorem dX9_goes_29 : decode cX9_goes 29 = .ok (.iadd, 1) := by decide +kernel
theorem dX9_goes_30 : decode cX9_goes 30 = .ok (.iaload, 1) := by decide +kernel
theorem dX9_goes_31 : decode cX9_goes 31 = .ok (.iconst 1, 1) := by decide +kernel
theorem dX9_goes_32 : decode cX9_goes 32 = .ok (.if_icmp .ne 13, 3) := by decide +kernel
theorem dX9_goes_35 : decode cX9_goes 35 = .ok (.aload_n 0, 1) := by decide +kernel
theorem dX9_goes_36 : decode cX9_goes 36 = .ok (.iload_n 1, 1) := by decide +kernel
theorem dX9_goes_37 : decode cX9_goes 37 = .ok (.iload 5, 2) := by decide +kernel
theorem dX9_goes_39 : decode cX9_goes 39 = .ok (.invokevirtual 48, 3) := by decide +kernel
theorem dX9_goes_42 : decode cX9_goes 42 = .ok (.goto 4, 3) := by decide +kernel
theorem dX9_goes_45 : decode cX9_goes 45 = .ok (.iconst 0, 1) := by decide +kernel
theorem dX9_goes_46 : decode cX9_goes 46 = .ok (.iadd, 1) := by decide +kernel
theorem dX9_goes_47 : decode cX9_goes 47 = .ok (.istore 4, 2) := by decide +kernel
theorem dX9_goes_49 : decode cX9_goes 49 = .ok (.iinc 5 1, 3) := by decide +kernel
theorem dX9_goes_52 : decode cX9_goes 52 = .ok (.goto (-41), 3) := by decide +kernel
theorem dX9_goes_55 : decode cX9_goes 55 = .ok (.iload_n 2, 1) := by decide +kernel
theorem dX9_goes_56 : decode cX9_goes 56 = .ok (.aload_n 0, 1) := by decide +kernel
theorem dX9_goes_57 : decode cX9_goes 57 = .ok (.iload_n 1, 1) := by decide +kernel
theorem dX9_goes_58 : decode cX9_goes 58 = .ok (.iconst 4, 1) := by decide +kernel
theorem dX9_goes_59 : decode cX9_goes 59 = .ok (.invokevirtual 48, 3) := by decide +kernel
theorem dX9_goes_62 : decode cX9_goes 62 = .ok (.iadd, 1) := by decide +kernel
theorem dX9_goes_63 : decode cX9_goes 63 = .ok (.istore 5, 2) := by decide +kernel
theorem dX9_goes_65 : decode cX9_goes 65 = .ok (.aload_n 0, 1) := by decide +kernel
theorem dX9_goes_66 : decode cX9_goes 66 = .ok (.iload_n 1, 1) := by decide +kernel
theorem dX9_goes_67 : decode cX9_goes 67 = .ok (.iload 4, 2) := by decide +kernel
theorem dX9_goes_69 : decode cX9_goes 69 = .ok (.invokevirtual 51, 3) := by decide +kernel
theorem dX9_goes_72 : decode cX9_goes 72 = .ok (.istore 6, 2) := by decide +kernel
theorem dX9_goes_74 : decode cX9_goes 74 = .ok (.aload_n 0, 1) := by decide +kernel
theorem dX9_goes_75 : decode cX9_goes 75 = .ok (.iload_n 1, 1) := by decide +kernel
theorem dX9_goes_76 : decode cX9_goes 76 = .ok (.iload 5, 2) := by decide +kernel
theorem dX9_goes_78 : decode cX9_goes 78 = .ok (.invokevirtual 51, 3) := by decide +kernel
theorem dX9_goes_81 : decode cX9_goes 81 = .ok (.istore 7, 2) := by decide +kernel
theorem dX9_goes_83 : decode cX9_goes 83 = .ok (.aload_n 0, 1) := by decide +kernel
theorem dX9_goes_84 : decode cX9_goes 84 = .ok (.getfield 7, 3) := by decide +kernel
theorem dX9_goes_87 : decode cX9_goes 87 = .ok (.iload_n 3, 1) := by decide +kernel
theorem dX9_goes_88 : decode cX9_goes 88 = .ok (.bipush 83, 2) := by decide +kernel
theorem dX9_goes_90 : decode cX9_goes 90 = .ok (.iadd, 1) := by decide +kernel
theorem dX9_goes_91 : decode cX9_goes 91 = .ok (.dup2, 1) := by decide +kernel
theorem dX9_goes_92 : decode cX9_goes 92 = .ok (.iaload, 1) := by decide +kernel
theorem dX9_goes_93 : decode cX9_goes 93 = .ok (.iload 6, 2) := by decide +kernel
theorem dX9_goes_95 : decode cX9_goes 95 = .ok (.iload 4, 2) := by decide +kernel
theorem dX9_goes_97 : decode cX9_goes 97 = .ok (.if_icmp .eq 7, 3) := by decide +kernel
theorem dX9_goes_100 : decode cX9_goes 100 = .ok (.iconst 1, 1) := by decide +kernel
theorem dX9_goes_101 : decode cX9_goes 101 = .ok (.goto 4, 3) := by decide +kernel
theorem dX9_goes_104 : decode cX9_goes 104 = .ok (.iconst 0, 1) := by decide +kernel
theorem dX9_goes_105 : decode cX9_goes 105 = .ok (.iadd, 1) := by decide +kernel
theorem dX9_goes_106 : decode cX9_goes 106 = .ok (.iastore, 1) := by decide +kernel
theorem dX9_goes_107 : decode cX9_goes 107 = .ok (.aload_n 0, 1) := by decide +kernel
theorem dX9_goes_108 : decode cX9_goes 108 = .ok (.getfield 7, 3) := by decide +kernel
theorem dX9_goes_111 : decode cX9_goes 111 = .ok (.iload_n 3, 1) := by decide +kernel
theorem dX9_goes_112 : decode cX9_goes 112 = .ok (.bipush 84, 2) := by decide +kernel
theorem dX9_goes_114 : decode cX9_goes 114 = .ok (.iadd, 1) := by decide +kernel
theorem dX9_goes_115 : decode cX9_goes 115 = .ok (.dup2, 1) := by decide +kernel
theorem dX9_goes_116 : decode cX9_goes 116 = .ok (.iaload, 1) := by decide +kernel
theorem dX9_goes_117 : decode cX9_goes 117 = .ok (.iload 7, 2) := by decide +kernel
theorem dX9_goes_119 : decode cX9_goes 119 = .ok (.iload 5, 2) := by decide +kernel
theorem dX9_goes_121 : decode cX9_goes 121 = .ok (.if_icmp .eq 7, 3) := by decide +kernel
theorem dX9_goes_124 : decode cX9_goes 124 = .ok (.iconst 1, 1) := by decide +kernel
theorem dX9_goes_125 : decode cX9_goes 125 = .ok (.goto 4, 3) := by decide +kernel
theorem dX9_goes_128 : decode cX9_goes 128 = .ok (.iconst 0, 1) := by decide +kernel
theorem dX9_goes_129 : decode cX9_goes 129 = .ok (.iadd, 1) := by decide +kernel
theorem dX9_goes_130 : decode cX9_goes 130 = .ok (.iastore, 1) := by decide +kernel
theorem dX9_goes_131 : decode cX9_goes 131 = .ok (.aload_n 0, 1) := by decide +kernel
theorem dX9_goes_132 : decode cX9_goes 132 = .ok (.iload_n 1, 1) := by decide +kernel
theorem dX9_goes_133 : decode cX9_goes 133 = .ok (.invokevirtual 33, 3) := by decide +kernel
theorem dX9_goes_136 : decode cX9_goes 136 = .ok (.iconst 1, 1) := by decide +kernel
theorem dX9_goes_137 : decode cX9_goes 137 = .ok (.isub, 1) := by decide +kernel
theorem dX9_goes_138 : decode cX9_goes 138 = .ok (.istore 8, 2) := by decide +kernel
theorem dX9_goes_140 : decode cX9_goes 140 = .ok (.iload 8, 2) := by decide +kernel
theorem dX9_goes_142 : decode cX9_goes 142 = .ok (.ifCond .le 29, 3) := by decide +kernel
theorem dX9_goes_145 : decode cX9_goes 145 = .ok (.aload_n 0, 1) := by decide +kernel
theorem dX9_goes_146 : decode cX9_goes 146 = .ok (.getfield 7, 3) := by decide +kernel
theorem dX9_goes_149 : decode cX9_goes 149 = .ok (.iload_n 3, 1) := by decide +kernel
theorem dX9_goes_150 : decode cX9_goes 150 = .ok (.iload 8, 2) := by decide +kernel
theorem dX9_goes_152 : decode cX9_goes 152 = .ok (.iadd, 1) := by decide +kernel
theorem dX9_goes_153 : decode cX9_goes 153 = .ok (.aload_n 0, 1) := by decide +kernel
theorem dX9_goes_154 : decode cX9_goes 154 = .ok (.getfield 7, 3) := by decide +kernel
theorem dX9_goes_157 : decode cX9_goes 157 = .ok (.iload_n 3, 1) := by decide +kernel
theorem dX9_goes_158 : decode cX9_goes 158 = .ok (.iload 8, 2) := by decide +kernel
theorem dX9_goes_160 : decode cX9_goes 160 = .ok (.iadd, 1) := by decide +kernel
theorem dX9_goes_161 : decode cX9_goes 161 = .ok (.iconst 1, 1) := by decide +kernel
theorem dX9_goes_162 : decode cX9_goes 162 = .ok (.isub, 1) := by decide +kernel
theorem dX9_goes_163 : decode cX9_goes 163 = .ok (.iaload, 1) := by decide +kernel
theorem dX9_goes_164 : decode cX9_goes 164 = .ok (.iastore, 1) := by decide +kernel
theorem dX9_goes_165 : decode cX9_goes 165 = .ok (.iinc 8 (-1), 3) := by decide +kernel
theorem dX9_goes_168 : decode cX9_goes 168 = .ok (.goto (-28), 3) := by decide +kernel
theorem dX9_goes_171 : decode cX9_goes 171 = .ok (.aload_n 0, 1) := by decide +kernel
theorem dX9_goes_172 : decode cX9_goes 172 = .ok (.getfield 7, 3) := by decide +kernel
theorem dX9_goes_175 : decode cX9_goes 175 = .ok (.iload_n 3, 1) := by decide +kernel
theorem dX9_goes_176 : decode cX9_goes 176 = .ok (.iload 7, 2) := by decide +kernel
theorem dX9_goes_178 : decode cX9_goes 178 = .ok (.iastore, 1) := by decide +kernel
theorem dX9_goes_179 : decode cX9_goes 179 = .ok (.aload_n 0, 1) := by decide +kernel
theorem dX9_goes_180 : decode cX9_goes 180 = .ok (.getfield 7, 3) := by decide +kernel
theorem dX9_goes_183 : decode cX9_goes 183 = .ok (.iload_n 3, 1) := by decide +kernel
theorem dX9_goes_184 : decode cX9_goes 184 = .ok (.bipush 81, 2) := by decide +kernel
theorem dX9_goes_186 : decode cX9_goes 186 = .ok (.iadd, 1) := by decide +kernel
theorem dX9_goes_187 : decode cX9_goes 187 = .ok (.dup2, 1) := by decide +kernel
theorem dX9_goes_188 : decode cX9_goes 188 = .ok (.iaload, 1) := by decide +kernel
theorem dX9_goes_189 : decode cX9_goes 189 = .ok (.iconst 1, 1) := by decide +kernel
theorem dX9_goes_190 : decode cX9_goes 190 = .ok (.iadd, 1) := by decide +kernel
theorem dX9_goes_191 : decode cX9_goes 191 = .ok (.iastore, 1) := by decide +kernel
theorem dX9_goes_192 : decode cX9_goes 192 = .ok (.iload 6, 2) := by decide +kernel
theorem dX9_goes_194 : decode cX9_goes 194 = .ok (.invokestatic 45, 3) := by decide +kernel
theorem dX9_goes_197 : decode cX9_goes 197 = .ok (.istore 8, 2) := by decide +kernel
theorem dX9_goes_199 : decode cX9_goes 199 = .ok (.aload_n 0, 1) := by decide +kernel
theorem dX9_goes_200 : decode cX9_goes 200 = .ok (.getfield 7, 3) := by decide +kernel
theorem dX9_goes_203 : decode cX9_goes 203 = .ok (.iload_n 3, 1) := by decide +kernel
theorem dX9_goes_204 : decode cX9_goes 204 = .ok (.bipush 82, 2) := by decide +kernel
theorem dX9_goes_206 : decode cX9_goes 206 = .ok (.iadd, 1) := by decide +kernel
theorem dX9_goes_207 : decode cX9_goes 207 = .ok (.iload 8, 2) := by decide +kernel
theorem dX9_goes_209 : decode cX9_goes 209 = .ok (.aload_n 0, 1) := by decide +kernel
theorem dX9_goes_210 : decode cX9_goes 210 = .ok (.getfield 7, 3) := by decide +kernel
theorem dX9_goes_213 : decode cX9_goes 213 = .ok (.iload_n 3, 1) := by decide +kernel
theorem dX9_goes_214 : decode cX9_goes 214 = .ok (.bipush 82, 2) := by decide +kernel
theorem dX9_goes_216 : decode cX9_goes 216 = .ok (.iadd, 1) := by decide +kernel
theorem dX9_goes_217 : decode cX9_goes 217 = .ok (.iaload, 1) := by decide +kernel
theorem dX9_goes_218 : decode cX9_goes 218 = .ok (.if_icmp .le 8, 3) := by decide +kernel
theorem dX9_goes_221 : decode cX9_goes 221 = .ok (.iload 8, 2) := by decide +kernel
theorem dX9_goes_223 : decode cX9_goes 223 = .ok (.goto 12, 3) := by decide +kernel
theorem dX9_goes_226 : decode cX9_goes 226 = .ok (.aload_n 0, 1) := by decide +kernel
theorem dX9_goes_227 : decode cX9_goes 227 = .ok (.getfield 7, 3) := by decide +kernel
theorem dX9_goes_230 : decode cX9_goes 230 = .ok (.iload_n 3, 1) := by decide +kernel
theorem dX9_goes_231 : decode cX9_goes 231 = .ok (.bipush 82, 2) := by decide +kernel
theorem dX9_goes_233 : decode cX9_goes 233 = .ok (.iadd, 1) := by decide +kernel
theorem dX9_goes_234 : decode cX9_goes 234 = .ok (.iaload, 1) := by decide +kernel
theorem dX9_goes_235 : decode cX9_goes 235 = .ok (.iastore, 1) := by decide +kernel
theorem dX9_goes_236 : decode cX9_goes 236 = .ok (.aload_n 0, 1) := by decide +kernel
theorem dX9_goes_237 : decode cX9_goes 237 = .ok (.getfield 13, 3) := by decide +kernel
theorem dX9_goes_240 : decode cX9_goes 240 = .ok (.iload_n 1, 1) := by decide +kernel
theorem dX9_goes_241 : decode cX9_goes 241 = .ok (.dup2, 1) := by decide +kernel
theorem dX9_goes_242 : decode cX9_goes 242 = .ok (.laload, 1) := by decide +kernel
theorem dX9_goes_243 : decode cX9_goes 243 = .ok (.iload 8, 2) := by decide +kernel
theorem dX9_goes_245 : decode cX9_goes 245 = .ok (.i2l, 1) := by decide +kernel
theorem dX9_goes_246 : decode cX9_goes 246 = .ok (.ladd, 1) := by decide +kernel
theorem dX9_goes_247 : decode cX9_goes 247 = .ok (.lastore, 1) := by decide +kernel
theorem dX9_goes_248 : decode cX9_goes 248 = .ok (.bipush 11, 2) := by decide +kernel
theorem dX9_goes_250 : decode cX9_goes 250 = .ok (.istore 9, 2) := by decide +kernel
theorem dX9_goes_252 : decode cX9_goes 252 = .ok (.iload 9, 2) := by decide +kernel
theorem dX9_goes_254 : decode cX9_goes 254 = .ok (.ifCond .le 35, 3) := by decide +kernel
theorem dX9_goes_257 : decode cX9_goes 257 = .ok (.aload_n 0, 1) := by decide +kernel
theorem dX9_goes_258 : decode cX9_goes 258 = .ok (.getfield 7, 3) := by decide +kernel
theorem dX9_goes_261 : decode cX9_goes 261 = .ok (.iload_n 3, 1) := by decide +kernel
theorem dX9_goes_262 : decode cX9_goes 262 = .ok (.bipush 85, 2) := by decide +kernel
theorem dX9_goes_264 : decode cX9_goes 264 = .ok (.iadd, 1) := by decide +kernel
theorem dX9_goes_265 : decode cX9_goes 265 = .ok (.iload 9, 2) := by decide +kernel
theorem dX9_goes_267 : decode cX9_goes 267 = .ok (.iadd, 1) := by decide +kernel
theorem dX9_goes_268 : decode cX9_goes 268 = .ok (.aload_n 0, 1) := by decide +kernel
theorem dX9_goes_269 : decode cX9_goes 269 = .ok (.getfield 7, 3) := by decide +kernel
theorem dX9_goes_272 : decode cX9_goes 272 = .ok (.iload_n 3, 1) := by decide +kernel
theorem dX9_goes_273 : decode cX9_goes 273 = .ok (.bipush 85, 2) := by decide +kernel
theorem dX9_goes_275 : decode cX9_goes 275 = .ok (.iadd, 1) := by decide +kernel
theorem dX9_goes_276 : decode cX9_goes 276 = .ok (.iload 9, 2) := by decide +kernel
theorem dX9_goes_278 : decode cX9_goes 278 = .ok (.iadd, 1) := by decide +kernel
theorem dX9_goes_279 : decode cX9_goes 279 = .ok (.iconst 1, 1) := by decide +kernel
theorem dX9_goes_280 : decode cX9_goes 280 = .ok (.isub, 1) := by decide +kernel
theorem dX9_goes_281 : decode cX9_goes 281 = .ok (.iaload, 1) := by decide +kernel
theorem dX9_goes_282 : decode cX9_goes 282 = .ok (.iastore, 1) := by decide +kernel
theorem dX9_goes_283 : decode cX9_goes 283 = .ok (.iinc 9 (-1), 3) := by decide +kernel
theorem dX9_goes_286 : decode cX9_goes 286 = .ok (.goto (-34), 3) := by decide +kernel
theorem dX9_goes_289 : decode cX9_goes 289 = .ok (.aload_n 0, 1) := by decide +kernel
theorem dX9_goes_290 : decode cX9_goes 290 = .ok (.getfield 7, 3) := by decide +kernel
theorem dX9_goes_293 : decode cX9_goes 293 = .ok (.iload_n 3, 1) := by decide +kernel
theorem dX9_goes_294 : decode cX9_goes 294 = .ok (.bipush 85, 2) := by decide +kernel
theorem dX9_goes_296 : decode cX9_goes 296 = .ok (.iadd, 1) := by decide +kernel
theorem dX9_goes_297 : decode cX9_goes 297 = .ok (.iload 6, 2) := by decide +kernel
theorem dX9_goes_299 : decode cX9_goes 299 = .ok (.iastore, 1) := by decide +kernel
theorem dX9_goes_300 : decode cX9_goes 300 = .ok (.aload_n 0, 1) := by decide +kernel
theorem dX9_goes_301 : decode cX9_goes 301 = .ok (.getfield 7, 3) := by decide +kernel
theorem dX9_goes_304 : decode cX9_goes 304 = .ok (.iload_n 3, 1) := by decide +kernel
theorem dX9_goes_305 : decode cX9_goes 305 = .ok (.bipush 97, 2) := by decide +kernel
theorem dX9_goes_307 : decode cX9_goes 307 = .ok (.iadd, 1) := by decide +kernel
theorem dX9_goes_308 : decode cX9_goes 308 = .ok (.dup2, 1) := by decide +kernel
theorem dX9_goes_309 : decode cX9_goes 309 = .ok (.iaload, 1) := by decide +kernel
theorem dX9_goes_310 : decode cX9_goes 310 = .ok (.aload_n 0, 1) := by decide +kernel
theorem dX9_goes_311 : decode cX9_goes 311 = .ok (.getfield 7, 3) := by decide +kernel
theorem dX9_goes_314 : decode cX9_goes 314 = .ok (.iload_n 3, 1) := by decide +kernel
theorem dX9_goes_315 : decode cX9_goes 315 = .ok (.bipush 97, 2) := by decide +kernel
theorem dX9_goes_317 : decode cX9_goes 317 = .ok (.iadd, 1) := by decide +kernel
theorem dX9_goes_318 : decode cX9_goes 318 = .ok (.iaload, 1) := by decide +kernel
theorem dX9_goes_319 : decode cX9_goes 319 = .ok (.bipush 12, 2) := by decide +kernel
theorem dX9_goes_321 : decode cX9_goes 321 = .ok (.if_icmp .ge 7, 3) := by decide +kernel
theorem dX9_goes_324 : decode cX9_goes 324 = .ok (.iconst 1, 1) := by decide +kernel
theorem dX9_goes_325 : decode cX9_goes 325 = .ok (.goto 4, 3) := by decide +kernel
theorem dX9_goes_328 : decode cX9_goes 328 = .ok (.iconst 0, 1) := by decide +kernel
theorem dX9_goes_329 : decode cX9_goes 329 = .ok (.iadd, 1) := by decide +kernel
theorem dX9_goes_330 : decode cX9_goes 330 = .ok (.iastore, 1) := by decide +kernel
theorem dX9_goes_331 : decode cX9_goes 331 = .ok (.iload 6, 2) := by decide +kernel
theorem dX9_goes_333 : decode cX9_goes 333 = .ok (.ireturn, 1) := by decide +kernel
theorem dX9_greatestWord_0 : decode cX9_greatestWord 0 = .ok (.iconst 0, 1) := by decide +kernel
theorem dX9_greatestWord_1 : decode cX9_greatestWord 1 = .ok (.istore_n 2, 1) := by decide +kernel
theorem dX9_greatestWord_2 : decode cX9_greatestWord 2 = .ok (.iconst 0, 1) := by decide +kernel
theorem dX9_greatestWord_3 : decode cX9_greatestWord 3 = .ok (.istore_n 3, 1) := by decide +kernel
theorem dX9_greatestWord_4 : decode cX9_greatestWord 4 = .ok (.iload_n 3, 1) := by decide +kernel
theorem dX9_greatestWord_5 : decode cX9_greatestWord 5 = .ok (.aload_n 0, 1) := by decide +kernel
theorem dX9_greatestWord_6 : decode cX9_greatestWord 6 = .ok (.iload_n 1, 1) := by decide +kernel
theorem dX9_greatestWord_7 : decode cX9_greatestWord 7 = .ok (.invokevirtual 33, 3) := by decide +kernel
theorem dX9_greatestWord_10 : decode cX9_greatestWord 10 = .ok (.if_icmp .ge 38, 3) := by decide +kernel
theorem dX9_greatestWord_13 : decode cX9_greatestWord 13 = .ok (.aload_n 0, 1) := by decide +kernel
theorem dX9_greatestWord_14 : decode cX9_greatestWord 14 = .ok (.getfield 7, 3) := by decide +kernel
theorem dX9_greatestWord_17 : decode cX9_greatestWord 17 = .ok (.bipush 100, 2) := by decide +kernel
theorem dX9_greatestWord_19 : decode cX9_greatestWord 19 = .ok (.iload_n 1, 1) := by decide +kernel
theorem dX9_greatestWord_20 : decode cX9_greatestWord 20 = .ok (.imul, 1) := by decide +kernel
theorem dX9_greatestWord_21 : decode cX9_greatestWord 21 = .ok (.iload_n 3, 1) := by decide +kernel
theorem dX9_greatestWord_22 : decode cX9_greatestWord 22 = .ok (.iadd, 1) := by decide +kernel
theorem dX9_greatestWord_23 : decode cX9_greatestWord 23 = .ok (.iaload, 1) := by decide +kernel
theorem dX9_greatestWord_24 : decode cX9_greatestWord 24 = .ok (.invokestatic 45, 3) := by decide +kernel
theorem dX9_greatestWord_27 : decode cX9_greatestWord 27 = .ok (.istore 4, 2) := by decide +kernel
theorem dX9_greatestWord_29 : decode cX9_greatestWord 29 = .ok (.iload 4, 2) := by decide +kernel
theorem dX9_greatestWord_31 : decode cX9_greatestWord 31 = .ok (.iload_n 2, 1) := by decide +kernel
theorem dX9_greatestWord_32 : decode cX9_greatestWord 32 = .ok (.if_icmp .le 8, 3) := by decide +kernel
theorem dX9_greatestWord_35 : decode cX9_greatestWord 35 = .ok (.iload 4, 2) := by decide +kernel
theorem dX9_greatestWord_37 : decode cX9_greatestWord 37 = .ok (.goto 4, 3) := by decide +kernel
theorem dX9_greatestWord_40 : decode cX9_greatestWord 40 = .ok (.iload_n 2, 1) := by decide +kernel
theorem dX9_greatestWord_41 : decode cX9_greatestWord 41 = .ok (.istore_n 2, 1) := by decide +kernel
theorem dX9_greatestWord_42 : decode cX9_greatestWord 42 = .ok (.iinc 3 1, 3) := by decide +kernel
theorem dX9_greatestWord_45 : decode cX9_greatestWord 45 = .ok (.goto (-41), 3) := by decide +kernel
theorem dX9_greatestWord_48 : decode cX9_greatestWord 48 = .ok (.iload_n 2, 1) := by decide +kernel
theorem dX9_greatestWord_49 : decode cX9_greatestWord 49 = .ok (.ireturn, 1) := by decide +kernel
theorem dX9_doSample_0 : decode cX9_doSample 0 = .ok (.iload_n 1, 1) := by decide +kernel
theorem dX9_doSample_1 : decode cX9_doSample 1 = .ok (.sipush (-20000), 3) := by decide +kernel
theorem dX9_doSample_4 : decode cX9_doSample 4 = .ok (.sipush 20000, 3) := by decide +kernel
theorem dX9_doSample_7 : decode cX9_doSample 7 = .ok (.invokestatic 54, 3) := by decide +kernel
theorem dX9_doSample_10 : decode cX9_doSample 10 = .ok (.ifCond .eq 12, 3) := by decide +kernel
theorem dX9_doSample_13 : decode cX9_doSample 13 = .ok (.aload_n 0, 1) := by decide +kernel
theorem dX9_doSample_14 : decode cX9_doSample 14 = .ok (.iconst 0, 1) := by decide +kernel
theorem dX9_doSample_15 : decode cX9_doSample 15 = .ok (.iload_n 1, 1) := by decide +kernel
theorem dX9_doSample_16 : decode cX9_doSample 16 = .ok (.invokevirtual 58, 3) := by decide +kernel
theorem dX9_doSample_19 : decode cX9_doSample 19 = .ok (.goto 5, 3) := by decide +kernel
theorem dX9_doSample_22 : decode cX9_doSample 22 = .ok (.ldc 28, 2) := by decide +kernel
theorem dX9_doSample_24 : decode cX9_doSample 24 = .ok (.ireturn, 1) := by decide +kernel
theorem dX9_doSilence_0 : decode cX9_doSilence 0 = .ok (.iload_n 1, 1) := by decide +kernel
theorem dX9_doSilence_1 : decode cX9_doSilence 1 = .ok (.iconst 1, 1) := by decide +kernel
theorem dX9_doSilence_2 : decode cX9_doSilence 2 = .ok (.sipush 200, 3) := by decide +kernel
theorem dX9_doSilence_5 : decode cX9_doSilence 5 = .ok (.invokestatic 54, 3) := by decide +kernel
theorem dX9_doSilence_8 : decode cX9_doSilence 8 = .ok (.ifCond .ne 6, 3) := by decide +kernel
theorem dX9_doSilence_11 : decode cX9_doSilence 11 = .ok (.ldc 28, 2) := by decide +kernel
theorem dX9_doSilence_13 : decode cX9_doSilence 13 = .ok (.ireturn, 1) := by decide +kernel
theorem dX9_doSilence_14 : decode cX9_doSilence 14 = .ok (.iconst 0, 1) := by decide +kernel
theorem dX9_doSilence_15 : decode cX9_doSilence 15 = .ok (.istore_n 2, 1) := by decide +kernel
theorem dX9_doSilence_16 : decode cX9_doSilence 16 = .ok (.iconst 0, 1) := by decide +kernel
theorem dX9_doSilence_17 : decode cX9_doSilence 17 = .ok (.istore_n 3, 1) := by decide +kernel
theorem dX9_doSilence_18 : decode cX9_doSilence 18 = .ok (.iload_n 3, 1) := by decide +kernel
theorem dX9_doSilence_19 : decode cX9_doSilence 19 = .ok (.iload_n 1, 1) := by decide +kernel
theorem dX9_doSilence_20 : decode cX9_doSilence 20 = .ok (.if_icmp .ge 33, 3) := by decide +kernel
theorem dX9_doSilence_23 : decode cX9_doSilence 23 = .ok (.aload_n 0, 1) := by decide +kernel
theorem dX9_doSilence_24 : decode cX9_doSilence 24 = .ok (.iconst 0, 1) := by decide +kernel
theorem dX9_doSilence_25 : decode cX9_doSilence 25 = .ok (.iconst 0, 1) := by decide +kernel
theorem dX9_doSilence_26 : decode cX9_doSilence 26 = .ok (.invokevirtual 58, 3) := by decide +kernel
theorem dX9_doSilence_29 : decode cX9_doSilence 29 = .ok (.invokestatic 45, 3) := by decide +kernel
theorem dX9_doSilence_32 : decode cX9_doSilence 32 = .ok (.istore 4, 2) := by decide +kernel
theorem dX9_doSilence_34 : decode cX9_doSilence 34 = .ok (.iload 4, 2) := by decide +kernel
theorem dX9_doSilence_36 : decode cX9_doSilence 36 = .ok (.iload_n 2, 1) := by decide +kernel
theorem dX9_doSilence_37 : decode cX9_doSilence 37 = .ok (.if_icmp .le 8, 3) := by decide +kernel
theorem dX9_doSilence_40 : decode cX9_doSilence 40 = .ok (.iload 4, 2) := by decide +kernel
theorem dX9_doSilence_42 : decode cX9_doSilence 42 = .ok (.goto 4, 3) := by decide +kernel
theorem dX9_doSilence_45 : decode cX9_doSilence 45 = .ok (.iload_n 2, 1) := by decide +kernel
theorem dX9_doSilence_46 : decode cX9_doSilence 46 = .ok (.istore_n 2, 1) := by decide +kernel
theorem dX9_doSilence_47 : decode cX9_doSilence 47 = .ok (.iinc 3 1, 3) := by decide +kernel
theorem dX9_doSilence_50 : decode cX9_doSilence 50 = .ok (.goto (-32), 3) := by decide +kernel
theorem dX9_doSilence_53 : decode cX9_doSilence 53 = .ok (.iload_n 2, 1) := by decide +kernel
theorem dX9_doSilence_54 : decode cX9_doSilence 54 = .ok (.ireturn, 1) := by decide +kernel
theorem dX9_doTap_0 : decode cX9_doTap 0 = .ok (.iload_n 1, 1) := by decide +kernel
theorem dX9_doTap_1 : decode cX9_doTap 1 = .ok (.iconst 0, 1) := by decide +kernel
theorem dX9_doTap_2 : decode cX9_doTap 2 = .ok (.iconst 3, 1) := by decide +kernel
theorem dX9_doTap_3 : decode cX9_doTap 3 = .ok (.invokestatic 54, 3) := by decide +kernel
theorem dX9_doTap_6 : decode cX9_doTap 6 = .ok (.ifCond .eq 26, 3) := by decide +kernel
theorem dX9_doTap_9 : decode cX9_doTap 9 = .ok (.iload_n 2, 1) := by decide +kernel
theorem dX9_doTap_10 : decode cX9_doTap 10 = .ok (.iconst 1, 1) := by decide +kernel
theorem dX9_doTap_11 : decode cX9_doTap 11 = .ok (.bipush 64, 2) := by decide +kernel
theorem dX9_doTap_13 : decode cX9_doTap 13 = .ok (.invokestatic 54, 3) := by decide +kernel
theorem dX9_doTap_16 : decode cX9_doTap 16 = .ok (.ifCond .eq 16, 3) := by decide +kernel
theorem dX9_doTap_19 : decode cX9_doTap 19 = .ok (.iload_n 3, 1) := by decide +kernel
theorem dX9_doTap_20 : decode cX9_doTap 20 = .ok (.sipush (-900), 3) := by decide +kernel
theorem dX9_doTap_23 : decode cX9_doTap 23 = .ok (.sipush 900, 3) := by decide +kernel
theorem dX9_doTap_26 : decode cX9_doTap 26 = .ok (.invokestatic 54, 3) := by decide +kernel
theorem dX9_doTap_29 : decode cX9_doTap 29 = .ok (.ifCond .ne 6, 3) := by decide +kernel
theorem dX9_doTap_32 : decode cX9_doTap 32 = .ok (.ldc 28, 2) := by decide +kernel
theorem dX9_doTap_34 : decode cX9_doTap 34 = .ok (.ireturn, 1) := by decide +kernel
theorem dX9_doTap_35 : decode cX9_doTap 35 = .ok (.aload_n 0, 1) := by decide +kernel
theorem dX9_doTap_36 : decode cX9_doTap 36 = .ok (.getfield 7, 3) := by decide +kernel
theorem dX9_doTap_39 : decode cX9_doTap 39 = .ok (.bipush 65, 2) := by decide +kernel
theorem dX9_doTap_41 : decode cX9_doTap 41 = .ok (.iload_n 1, 1) := by decide +kernel
theorem dX9_doTap_42 : decode cX9_doTap 42 = .ok (.iadd, 1) := by decide +kernel
theorem dX9_doTap_43 : decode cX9_doTap 43 = .ok (.iconst 1, 1) := by decide +kernel
theorem dX9_doTap_44 : decode cX9_doTap 44 = .ok (.iastore, 1) := by decide +kernel
theorem dX9_doTap_45 : decode cX9_doTap 45 = .ok (.aload_n 0, 1) := by decide +kernel
theorem dX9_doTap_46 : decode cX9_doTap 46 = .ok (.getfield 7, 3) := by decide +kernel
theorem dX9_doTap_49 : decode cX9_doTap 49 = .ok (.bipush 69, 2) := by decide +kernel
theorem dX9_doTap_51 : decode cX9_doTap 51 = .ok (.iload_n 1, 1) := by decide +kernel
theorem dX9_doTap_52 : decode cX9_doTap 52 = .ok (.iadd, 1) := by decide +kernel
theorem dX9_doTap_53 : decode cX9_doTap 53 = .ok (.iload_n 2, 1) := by decide +kernel
theorem dX9_doTap_54 : decode cX9_doTap 54 = .ok (.iastore, 1) := by decide +kernel
theorem dX9_doTap_55 : decode cX9_doTap 55 = .ok (.aload_n 0, 1) := by decide +kernel
theorem dX9_doTap_56 : decode cX9_doTap 56 = .ok (.getfield 7, 3) := by decide +kernel
theorem dX9_doTap_59 : decode cX9_doTap 59 = .ok (.bipush 74, 2) := by decide +kernel
theorem dX9_doTap_61 : decode cX9_doTap 61 = .ok (.iload_n 1, 1) := by decide +kernel
theorem dX9_doTap_62 : decode cX9_doTap 62 = .ok (.iadd, 1) := by decide +kernel
theorem dX9_doTap_63 : decode cX9_doTap 63 = .ok (.iload_n 3, 1) := by decide +kernel
theorem dX9_doTap_64 : decode cX9_doTap 64 = .ok (.iastore, 1) := by decide +kernel
theorem dX9_doTap_65 : decode cX9_doTap 65 = .ok (.aload_n 0, 1) := by decide +kernel
theorem dX9_doTap_66 : decode cX9_doTap 66 = .ok (.iconst 0, 1) := by decide +kernel
theorem dX9_doTap_67 : decode cX9_doTap 67 = .ok (.iload_n 1, 1) := by decide +kernel
theorem dX9_doTap_68 : decode cX9_doTap 68 = .ok (.invokevirtual 37, 3) := by decide +kernel
theorem dX9_doTap_71 : decode cX9_doTap 71 = .ok (.ifCond .eq 7, 3) := by decide +kernel
theorem dX9_doTap_74 : decode cX9_doTap 74 = .ok (.iconst 1, 1) := by decide +kernel
theorem dX9_doTap_75 : decode cX9_doTap 75 = .ok (.goto 4, 3) := by decide +kernel
theorem dX9_doTap_78 : decode cX9_doTap 78 = .ok (.iconst 0, 1) := by decide +kernel
theorem dX9_doTap_79 : decode cX9_doTap 79 = .ok (.ireturn, 1) := by decide +kernel
theorem dX9_doFeedback_0 : decode cX9_doFeedback 0 = .ok (.iload_n 1, 1) := by decide +kernel
theorem dX9_doFeedback_1 : decode cX9_doFeedback 1 = .ok (.iconst 1, 1) := by decide +kernel
theorem dX9_doFeedback_2 : decode cX9_doFeedback 2 = .ok (.bipush 64, 2) := by decide +kernel
theorem dX9_doFeedback_4 : decode cX9_doFeedback 4 = .ok (.invokestatic 54, 3) := by decide +kernel
theorem dX9_doFeedback_7 : decode cX9_doFeedback 7 = .ok (.ifCond .eq 14, 3) := by decide +kernel
theorem dX9_doFeedback_10 : decode cX9_doFeedback 10 = .ok (.iload_n 2, 1) := by decide +kernel
theorem dX9_doFeedback_11 : decode cX9_doFeedback 11 = .ok (.iconst 0, 1) := by decide +kernel
theorem dX9_doFeedback_12 : decode cX9_doFeedback 12 = .ok (.sipush 950, 3) := by decide +kernel
theorem dX9_doFeedback_15 : decode cX9_doFeedback 15 = .ok (.invokestatic 54, 3) := by decide +kernel
theorem dX9_doFeedback_18 : decode cX9_doFeedback 18 = .ok (.ifCond .ne 6, 3) := by decide +kernel
theorem dX9_doFeedback_21 : decode cX9_doFeedback 21 = .ok (.ldc 28, 2) := by decide +kernel
theorem dX9_doFeedback_23 : decode cX9_doFeedback 23 = .ok (.ireturn, 1) := by decide +kernel
theorem dX9_doFeedback_24 : decode cX9_doFeedback 24 = .ok (.aload_n 0, 1) := by decide +kernel
theorem dX9_doFeedback_25 : decode cX9_doFeedback 25 = .ok (.getfield 7, 3) := by decide +kernel
theorem dX9_doFeedback_28 : decode cX9_doFeedback 28 = .ok (.bipush 78, 2) := by decide +kernel
theorem dX9_doFeedback_30 : decode cX9_doFeedback 30 = .ok (.iaload, 1) := by decide +kernel
theorem dX9_doFeedback_31 : decode cX9_doFeedback 31 = .ok (.istore_n 3, 1) := by decide +kernel
theorem dX9_doFeedback_32 : decode cX9_doFeedback 32 = .ok (.aload_n 0, 1) := by decide +kernel
theorem dX9_doFeedback_33 : decode cX9_doFeedback 33 = .ok (.getfield 7, 3) := by decide +kernel
theorem dX9_doFeedback_36 : decode cX9_doFeedback 36 = .ok (.bipush 73, 2) := by decide +kernel
theorem dX9_doFeedback_38 : decode cX9_doFeedback 38 = .ok (.iload_n 1, 1) := by decide +kernel
theorem dX9_doFeedback_39 : decode cX9_doFeedback 39 = .ok (.iastore, 1) := by decide +kernel
theorem dX9_doFeedback_40 : decode cX9_doFeedback 40 = .ok (.aload_n 0, 1) := by decide +kernel
theorem dX9_doFeedback_41 : decode cX9_doFeedback 41 = .ok (.getfield 7, 3) := by decide +kernel
theorem dX9_doFeedback_44 : decode cX9_doFeedback 44 = .ok (.bipush 78, 2) := by decide +kernel
theorem dX9_doFeedback_46 : decode cX9_doFeedback 46 = .ok (.iload_n 2, 1) := by decide +kernel
theorem dX9_doFeedback_47 : decode cX9_doFeedback 47 = .ok (.iastore, 1) := by decide +kernel
theorem dX9_doFeedback_48 : decode cX9_doFeedback 48 = .ok (.iload_n 3, 1) := by decide +kernel
theorem dX9_doFeedback_49 : decode cX9_doFeedback 49 = .ok (.ireturn, 1) := by decide +kernel
theorem dX9_doSteal_0 : decode cX9_doSteal 0 = .ok (.iload_n 1, 1) := by decide +kernel
theorem dX9_doSteal_1 : decode cX9_doSteal 1 = .ok (.iconst 1, 1) := by decide +kernel
theorem dX9_doSteal_2 : decode cX9_doSteal 2 = .ok (.bipush 48, 2) := by decide +kernel
theorem dX9_doSteal_4 : decode cX9_doSteal 4 = .ok (.invokestatic 54, 3) := by decide +kernel
theorem dX9_doSteal_7 : decode cX9_doSteal 7 = .ok (.ifCond .ne 6, 3) := by decide +kernel
theorem dX9_doSteal_10 : decode cX9_doSteal 10 = .ok (.ldc 28, 2) := by decide +kernel
theorem dX9_doSteal_12 : decode cX9_doSteal 12 = .ok (.ireturn, 1) := by decide +kernel
theorem dX9_doSteal_13 : decode cX9_doSteal 13 = .ok (.aload_n 0, 1) := by decide +kernel
theorem dX9_doSteal_14 : decode cX9_doSteal 14 = .ok (.getfield 7, 3) := by decide +kernel
theorem dX9_doSteal_17 : decode cX9_doSteal 17 = .ok (.bipush 64, 2) := by decide +kernel
theorem dX9_doSteal_19 : decode cX9_doSteal 19 = .ok (.iaload, 1) := by decide +kernel
theorem dX9_doSteal_20 : decode cX9_doSteal 20 = .ok (.iload_n 1, 1) := by decide +kernel
theorem dX9_doSteal_21 : decode cX9_doSteal 21 = .ok (.iadd, 1) := by decide +kernel
theorem dX9_doSteal_22 : decode cX9_doSteal 22 = .ok (.bipush 48, 2) := by decide +kernel
theorem dX9_doSteal_24 : decode cX9_doSteal 24 = .ok (.if_icmp .le 6, 3) := by decide +kernel
theorem dX9_doSteal_27 : decode cX9_doSteal 27 = .ok (.ldc 61, 2) := by decide +kernel
theorem dX9_doSteal_29 : decode cX9_doSteal 29 = .ok (.ireturn, 1) := by decide +kernel
theorem dX9_doSteal_30 : decode cX9_doSteal 30 = .ok (.aload_n 0, 1) := by decide +kernel
theorem dX9_doSteal_31 : decode cX9_doSteal 31 = .ok (.getfield 7, 3) := by decide +kernel
theorem dX9_doSteal_34 : decode cX9_doSteal 34 = .ok (.bipush 64, 2) := by decide +kernel
theorem dX9_doSteal_36 : decode cX9_doSteal 36 = .ok (.dup2, 1) := by decide +kernel
theorem dX9_doSteal_37 : decode cX9_doSteal 37 = .ok (.iaload, 1) := by decide +kernel
theorem dX9_doSteal_38 : decode cX9_doSteal 38 = .ok (.iload_n 1, 1) := by decide +kernel
theorem dX9_doSteal_39 : decode cX9_doSteal 39 = .ok (.iadd, 1) := by decide +kernel
theorem dX9_doSteal_40 : decode cX9_doSteal 40 = .ok (.iastore, 1) := by decide +kernel
theorem dX9_doSteal_41 : decode cX9_doSteal 41 = .ok (.aload_n 0, 1) := by decide +kernel
theorem dX9_doSteal_42 : decode cX9_doSteal 42 = .ok (.getfield 7, 3) := by decide +kernel
theorem dX9_doSteal_45 : decode cX9_doSteal 45 = .ok (.bipush 98, 2) := by decide +kernel
theorem dX9_doSteal_47 : decode cX9_doSteal 47 = .ok (.dup2, 1) := by decide +kernel
theorem dX9_doSteal_48 : decode cX9_doSteal 48 = .ok (.iaload, 1) := by decide +kernel
theorem dX9_doSteal_49 : decode cX9_doSteal 49 = .ok (.iload_n 1, 1) := by decide +kernel
theorem dX9_doSteal_50 : decode cX9_doSteal 50 = .ok (.iadd, 1) := by decide +kernel
theorem dX9_doSteal_51 : decode cX9_doSteal 51 = .ok (.iastore, 1) := by decide +kernel
theorem dX9_doSteal_52 : decode cX9_doSteal 52 = .ok (.aload_n 0, 1) := by decide +kernel
theorem dX9_doSteal_53 : decode cX9_doSteal 53 = .ok (.iconst 0, 1) := by decide +kernel
theorem dX9_doSteal_54 : decode cX9_doSteal 54 = .ok (.invokevirtual 33, 3) := by decide +kernel
theorem dX9_doSteal_57 : decode cX9_doSteal 57 = .ok (.istore_n 2, 1) := by decide +kernel
theorem dX9_doSteal_58 : decode cX9_doSteal 58 = .ok (.iload_n 2, 1) := by decide +kernel
theorem dX9_doSteal_59 : decode cX9_doSteal 59 = .ok (.bipush 64, 2) := by decide +kernel
theorem dX9_doSteal_61 : decode cX9_doSteal 61 = .ok (.if_icmp .ge 16, 3) := by decide +kernel
theorem dX9_doSteal_64 : decode cX9_doSteal 64 = .ok (.aload_n 0, 1) := by decide +kernel
theorem dX9_doSteal_65 : decode cX9_doSteal 65 = .ok (.getfield 7, 3) := by decide +kernel
theorem dX9_doSteal_68 : decode cX9_doSteal 68 = .ok (.iload_n 2, 1) := by decide +kernel
theorem dX9_doSteal_69 : decode cX9_doSteal 69 = .ok (.iconst 0, 1) := by decide +kernel
theorem dX9_doSteal_70 : decode cX9_doSteal 70 = .ok (.iastore, 1) := by decide +kernel
theorem dX9_doSteal_71 : decode cX9_doSteal 71 = .ok (.iinc 2 1, 3) := by decide +kernel
theorem dX9_doSteal_74 : decode cX9_doSteal 74 = .ok (.goto (-16), 3) := by decide +kernel
theorem dX9_doSteal_77 : decode cX9_doSteal 77 = .ok (.aload_n 0, 1) := by decide +kernel
theorem dX9_doSteal_78 : decode cX9_doSteal 78 = .ok (.iconst 0, 1) := by decide +kernel
theorem dX9_doSteal_79 : decode cX9_doSteal 79 = .ok (.invokevirtual 33, 3) := by decide +kernel
theorem dX9_doSteal_82 : decode cX9_doSteal 82 = .ok (.ireturn, 1) := by decide +kernel
theorem dX9_doGive_0 : decode cX9_doGive 0 = .ok (.iload_n 1, 1) := by decide +kernel
theorem dX9_doGive_1 : decode cX9_doGive 1 = .ok (.iconst 1, 1) := by decide +kernel
theorem dX9_doGive_2 : decode cX9_doGive 2 = .ok (.bipush 48, 2) := by decide +kernel
theorem dX9_doGive_4 : decode cX9_doGive 4 = .ok (.invokestatic 54, 3) := by decide +kernel
theorem dX9_doGive_7 : decode cX9_doGive 7 = .ok (.ifCond .ne 6, 3) := by decide +kernel
theorem dX9_doGive_10 : decode cX9_doGive 10 = .ok (.ldc 28, 2) := by decide +kernel
theorem dX9_doGive_12 : decode cX9_doGive 12 = .ok (.ireturn, 1) := by decide +kernel
theorem dX9_doGive_13 : decode cX9_doGive 13 = .ok (.aload_n 0, 1) := by decide +kernel
theorem dX9_doGive_14 : decode cX9_doGive 14 = .ok (.getfield 7, 3) := by decide +kernel
theorem dX9_doGive_17 : decode cX9_doGive 17 = .ok (.bipush 64, 2) := by decide +kernel
theorem dX9_doGive_19 : decode cX9_doGive 19 = .ok (.iaload, 1) := by decide +kernel
theorem dX9_doGive_20 : decode cX9_doGive 20 = .ok (.iload_n 1, 1) := by decide +kernel
theorem dX9_doGive_21 : decode cX9_doGive 21 = .ok (.if_icmp .ge 6, 3) := by decide +kernel
theorem dX9_doGive_24 : decode cX9_doGive 24 = .ok (.ldc 62, 2) := by decide +kernel
theorem dX9_doGive_26 : decode cX9_doGive 26 = .ok (.ireturn, 1) := by decide +kernel
theorem dX9_doGive_27 : decode cX9_doGive 27 = .ok (.aload_n 0, 1) := by decide +kernel
theorem dX9_doGive_28 : decode cX9_doGive 28 = .ok (.getfield 7, 3) := by decide +kernel
theorem dX9_doGive_31 : decode cX9_doGive 31 = .ok (.bipush 64, 2) := by decide +kernel
theorem dX9_doGive_33 : decode cX9_doGive 33 = .ok (.dup2, 1) := by decide +kernel
theorem dX9_doGive_34 : decode cX9_doGive 34 = .ok (.iaload, 1) := by decide +kernel
theorem dX9_doGive_35 : decode cX9_doGive 35 = .ok (.iload_n 1, 1) := by decide +kernel
theorem dX9_doGive_36 : decode cX9_doGive 36 = .ok (.isub, 1) := by decide +kernel
theorem dX9_doGive_37 : decode cX9_doGive 37 = .ok (.iastore, 1) := by decide +kernel
theorem dX9_doGive_38 : decode cX9_doGive 38 = .ok (.aload_n 0, 1) := by decide +kernel
theorem dX9_doGive_39 : decode cX9_doGive 39 = .ok (.iconst 0, 1) := by decide +kernel
theorem dX9_doGive_40 : decode cX9_doGive 40 = .ok (.invokevirtual 33, 3) := by decide +kernel
theorem dX9_doGive_43 : decode cX9_doGive 43 = .ok (.ireturn, 1) := by decide +kernel
theorem dX9_sample_0 : decode cX9_sample 0 = .ok (.aload_n 0, 1) := by decide +kernel
theorem dX9_sample_1 : decode cX9_sample 1 = .ok (.invokevirtual 63, 3) := by decide +kernel
theorem dX9_sample_4 : decode cX9_sample 4 = .ok (.aload_n 0, 1) := by decide +kernel
theorem dX9_sample_5 : decode cX9_sample 5 = .ok (.aload_n 0, 1) := by decide +kernel
theorem dX9_sample_6 : decode cX9_sample 6 = .ok (.iload_n 1, 1) := by decide +kernel
theorem dX9_sample_7 : decode cX9_sample 7 = .ok (.invokevirtual 66, 3) := by decide +kernel
theorem dX9_sample_10 : decode cX9_sample 10 = .ok (.invokevirtual 69, 3) := by decide +kernel
theorem dX9_sample_13 : decode cX9_sample 13 = .ok (.ireturn, 1) := by decide +kernel
theorem dX9_silence_0 : decode cX9_silence 0 = .ok (.aload_n 0, 1) := by decide +kernel
theorem dX9_silence_1 : decode cX9_silence 1 = .ok (.invokevirtual 63, 3) := by decide +kernel
theorem dX9_silence_4 : decode cX9_silence 4 = .ok (.aload_n 0, 1) := by decide +kernel
theorem dX9_silence_5 : decode cX9_silence 5 = .ok (.aload_n 0, 1) := by decide +kernel
theorem dX9_silence_6 : decode cX9_silence 6 = .ok (.iload_n 1, 1) := by decide +kernel
theorem dX9_silence_7 : decode cX9_silence 7 = .ok (.invokevirtual 72, 3) := by decide +kernel
theorem dX9_silence_10 : decode cX9_silence 10 = .ok (.invokevirtual 69, 3) := by decide +kernel
theorem dX9_silence_13 : decode cX9_silence 13 = .ok (.ireturn, 1) := by decide +kernel
theorem dX9_tap_0 : decode cX9_tap 0 = .ok (.aload_n 0, 1) := by decide +kernel
theorem dX9_tap_1 : decode cX9_tap 1 = .ok (.invokevirtual 63, 3) := by decide +kernel
theorem dX9_tap_4 : decode cX9_tap 4 = .ok (.aload_n 0, 1) := by decide +kernel
theorem dX9_tap_5 : decode cX9_tap 5 = .ok (.aload_n 0, 1) := by decide +kernel
theorem dX9_tap_6 : decode cX9_tap 6 = .ok (.iload_n 1, 1) := by decide +kernel
theorem dX9_tap_7 : decode cX9_tap 7 = .ok (.iload_n 2, 1) := by decide +kernel
theorem dX9_tap_8 : decode cX9_tap 8 = .ok (.iload_n 3, 1) := by decide +kernel
theorem dX9_tap_9 : decode cX9_tap 9 = .ok (.invokevirtual 75, 3) := by decide +kernel
theorem dX9_tap_12 : decode cX9_tap 12 = .ok (.invokevirtual 69, 3) := by decide +kernel
theorem dX9_tap_15 : decode cX9_tap 15 = .ok (.ireturn, 1) := by decide +kernel
theorem dX9_off_0 : decode cX9_off 0 = .ok (.iload_n 1, 1) := by decide +kernel
theorem dX9_off_1 : decode cX9_off 1 = .ok (.iconst 0, 1) := by decide +kernel
theorem dX9_off_2 : decode cX9_off 2 = .ok (.iconst 3, 1) := by decide +kernel
theorem dX9_off_3 : decode cX9_off 3 = .ok (.invokestatic 54, 3) := by decide +kernel
theorem dX9_off_6 : decode cX9_off 6 = .ok (.ifCond .ne 6, 3) := by decide +kernel
theorem dX9_off_9 : decode cX9_off 9 = .ok (.ldc 28, 2) := by decide +kernel
theorem dX9_off_11 : decode cX9_off 11 = .ok (.ireturn, 1) := by decide +kernel
theorem dX9_off_12 : decode cX9_off 12 = .ok (.aload_n 0, 1) := by decide +kernel
theorem dX9_off_13 : decode cX9_off 13 = .ok (.getfield 7, 3) := by decide +kernel
theorem dX9_off_16 : decode cX9_off 16 = .ok (.bipush 65, 2) := by decide +kernel
theorem dX9_off_18 : decode cX9_off 18 = .ok (.iload_n 1, 1) := by decide +kernel
theorem dX9_off_19 : decode cX9_off 19 = .ok (.iadd, 1) := by decide +kernel
theorem dX9_off_20 : decode cX9_off 20 = .ok (.iaload, 1) := by decide +kernel
theorem dX9_off_21 : decode cX9_off 21 = .ok (.ifCond .ne 6, 3) := by decide +kernel
theorem dX9_off_24 : decode cX9_off 24 = .ok (.ldc 62, 2) := by decide +kernel
theorem dX9_off_26 : decode cX9_off 26 = .ok (.ireturn, 1) := by decide +kernel
theorem dX9_off_27 : decode cX9_off 27 = .ok (.aload_n 0, 1) := by decide +kernel
theorem dX9_off_28 : decode cX9_off 28 = .ok (.invokevirtual 63, 3) := by decide +kernel
theorem dX9_off_31 : decode cX9_off 31 = .ok (.aload_n 0, 1) := by decide +kernel
theorem dX9_off_32 : decode cX9_off 32 = .ok (.getfield 7, 3) := by decide +kernel
theorem dX9_off_35 : decode cX9_off 35 = .ok (.bipush 65, 2) := by decide +kernel
theorem dX9_off_37 : decode cX9_off 37 = .ok (.iload_n 1, 1) := by decide +kernel
theorem dX9_off_38 : decode cX9_off 38 = .ok (.iadd, 1) := by decide +kernel
theorem dX9_off_39 : decode cX9_off 39 = .ok (.iconst 0, 1) := by decide +kernel
theorem dX9_off_40 : decode cX9_off 40 = .ok (.iastore, 1) := by decide +kernel
theorem dX9_off_41 : decode cX9_off 41 = .ok (.aload_n 0, 1) := by decide +kernel
theorem dX9_off_42 : decode cX9_off 42 = .ok (.aload_n 0, 1) := by decide +kernel
theorem dX9_off_43 : decode cX9_off 43 = .ok (.getfield 7, 3) := by decide +kernel
theorem dX9_off_46 : decode cX9_off 46 = .ok (.bipush 69, 2) := by decide +kernel
theorem dX9_off_48 : decode cX9_off 48 = .ok (.iload_n 1, 1) := by decide +kernel
theorem dX9_off_49 : decode cX9_off 49 = .ok (.iadd, 1) := by decide +kernel
theorem dX9_off_50 : decode cX9_off 50 = .ok (.iaload, 1) := by decide +kernel
theorem dX9_off_51 : decode cX9_off 51 = .ok (.invokevirtual 69, 3) := by decide +kernel
theorem dX9_off_54 : decode cX9_off 54 = .ok (.ireturn, 1) := by decide +kernel
theorem dX9_feedback_0 : decode cX9_feedback 0 = .ok (.aload_n 0, 1) := by decide +kernel
theorem dX9_feedback_1 : decode cX9_feedback 1 = .ok (.invokevirtual 63, 3) := by decide +kernel
theorem dX9_feedback_4 : decode cX9_feedback 4 = .ok (.aload_n 0, 1) := by decide +kernel
theorem dX9_feedback_5 : decode cX9_feedback 5 = .ok (.aload_n 0, 1) := by decide +kernel
theorem dX9_feedback_6 : decode cX9_feedback 6 = .ok (.iload_n 1, 1) := by decide +kernel
theorem dX9_feedback_7 : decode cX9_feedback 7 = .ok (.iload_n 2, 1) := by decide +kernel
theorem dX9_feedback_8 : decode cX9_feedback 8 = .ok (.invokevirtual 79, 3) := by decide +kernel
theorem dX9_feedback_11 : decode cX9_feedback 11 = .ok (.invokevirtual 69, 3) := by decide +kernel
theorem dX9_feedback_14 : decode cX9_feedback 14 = .ok (.ireturn, 1) := by decide +kernel
theorem dX9_steal_0 : decode cX9_steal 0 = .ok (.aload_n 0, 1) := by decide +kernel
theorem dX9_steal_1 : decode cX9_steal 1 = .ok (.invokevirtual 63, 3) := by decide +kernel
theorem dX9_steal_4 : decode cX9_steal 4 = .ok (.aload_n 0, 1) := by decide +kernel
theorem dX9_steal_5 : decode cX9_steal 5 = .ok (.aload_n 0, 1) := by decide +kernel
theorem dX9_steal_6 : decode cX9_steal 6 = .ok (.iload_n 1, 1) := by decide +kernel
theorem dX9_steal_7 : decode cX9_steal 7 = .ok (.invokevirtual 82, 3) := by decide +kernel
theorem dX9_steal_10 : decode cX9_steal 10 = .ok (.invokevirtual 69, 3) := by decide +kernel
theorem dX9_steal_13 : decode cX9_steal 13 = .ok (.ireturn, 1) := by decide +kernel
theorem dX9_giveBack_0 : decode cX9_giveBack 0 = .ok (.aload_n 0, 1) := by decide +kernel
theorem dX9_giveBack_1 : decode cX9_giveBack 1 = .ok (.invokevirtual 63, 3) := by decide +kernel
theorem dX9_giveBack_4 : decode cX9_giveBack 4 = .ok (.aload_n 0, 1) := by decide +kernel
theorem dX9_giveBack_5 : decode cX9_giveBack 5 = .ok (.aload_n 0, 1) := by decide +kernel
theorem dX9_giveBack_6 : decode cX9_giveBack 6 = .ok (.iload_n 1, 1) := by decide +kernel
theorem dX9_giveBack_7 : decode cX9_giveBack 7 = .ok (.invokevirtual 85, 3) := by decide +kernel
theorem dX9_giveBack_10 : decode cX9_giveBack 10 = .ok (.invokevirtual 69, 3) := by decide +kernel
theorem dX9_giveBack_13 : decode cX9_giveBack 13 = .ok (.ireturn, 1) := by decide +kernel
theorem dX9_set_0 : decode cX9_set 0 = .ok (.iload_n 1, 1) := by decide +kernel
theorem dX9_set_1 : decode cX9_set 1 = .ok (.iconst 0, 1) := by decide +kernel
theorem dX9_set_2 : decode cX9_set 2 = .ok (.iconst 1, 1) := by decide +kernel
theorem dX9_set_3 : decode cX9_set 3 = .ok (.invokestatic 54, 3) := by decide +kernel
theorem dX9_set_6 : decode cX9_set 6 = .ok (.ifCond .eq 31, 3) := by decide +kernel
theorem dX9_set_9 : decode cX9_set 9 = .ok (.iload_n 2, 1) := by decide +kernel
theorem dX9_set_10 : decode cX9_set 10 = .ok (.iload_n 1, 1) := by decide +kernel
theorem dX9_set_11 : decode cX9_set 11 = .ok (.ifCond .ne 8, 3) := by decide +kernel
theorem dX9_set_14 : decode cX9_set 14 = .ok (.bipush 100, 2) := by decide +kernel
theorem dX9_set_16 : decode cX9_set 16 = .ok (.goto 4, 3) := by decide +kernel
theorem dX9_set_19 : decode cX9_set 19 = .ok (.iconst 0, 1) := by decide +kernel
theorem dX9_set_20 : decode cX9_set 20 = .ok (.iload_n 1, 1) := by decide +kernel
end
section
/-! decode rows (printed by TURN) -/
theorem dX9_set_21 : decode cX9_set 21 = .ok (.ifCond .ne 9, 3) := by decide +kernel
theorem dX9_set_24 : decode cX9_set 24 = .ok (.sipush 30000, 3) := by decide +kernel
theorem dX9_set_27 : decode cX9_set 27 = .ok (.goto 4, 3) := by decide +kernel
theorem dX9_set_30 : decode cX9_set 30 = .ok (.iconst 2, 1) := by decide +kernel
theorem dX9_set_31 : decode cX9_set 31 = .ok (.invokestatic 54, 3) := by decide +kernel
theorem dX9_set_34 : decode cX9_set 34 = .ok (.ifCond .ne 6, 3) := by decide +kernel
theorem dX9_set_37 : decode cX9_set 37 = .ok (.ldc 28, 2) := by decide +kernel
theorem dX9_set_39 : decode cX9_set 39 = .ok (.ireturn, 1) := by decide +kernel
theorem dX9_set_40 : decode cX9_set 40 = .ok (.aload_n 0, 1) := by decide +kernel
theorem dX9_set_41 : decode cX9_set 41 = .ok (.invokevirtual 63, 3) := by decide +kernel
theorem dX9_set_44 : decode cX9_set 44 = .ok (.aload_n 0, 1) := by decide +kernel
theorem dX9_set_45 : decode cX9_set 45 = .ok (.getfield 7, 3) := by decide +kernel
theorem dX9_set_48 : decode cX9_set 48 = .ok (.bipush 79, 2) := by decide +kernel
theorem dX9_set_50 : decode cX9_set 50 = .ok (.iload_n 1, 1) := by decide +kernel
theorem dX9_set_51 : decode cX9_set 51 = .ok (.iadd, 1) := by decide +kernel
theorem dX9_set_52 : decode cX9_set 52 = .ok (.iaload, 1) := by decide +kernel
theorem dX9_set_53 : decode cX9_set 53 = .ok (.istore_n 3, 1) := by decide +kernel
theorem dX9_set_54 : decode cX9_set 54 = .ok (.aload_n 0, 1) := by decide +kernel
theorem dX9_set_55 : decode cX9_set 55 = .ok (.getfield 7, 3) := by decide +kernel
theorem dX9_set_58 : decode cX9_set 58 = .ok (.bipush 79, 2) := by decide +kernel
theorem dX9_set_60 : decode cX9_set 60 = .ok (.iload_n 1, 1) := by decide +kernel
theorem dX9_set_61 : decode cX9_set 61 = .ok (.iadd, 1) := by decide +kernel
theorem dX9_set_62 : decode cX9_set 62 = .ok (.iload_n 2, 1) := by decide +kernel
theorem dX9_set_63 : decode cX9_set 63 = .ok (.iastore, 1) := by decide +kernel
theorem dX9_set_64 : decode cX9_set 64 = .ok (.aload_n 0, 1) := by decide +kernel
theorem dX9_set_65 : decode cX9_set 65 = .ok (.iload_n 3, 1) := by decide +kernel
theorem dX9_set_66 : decode cX9_set 66 = .ok (.invokevirtual 69, 3) := by decide +kernel
theorem dX9_set_69 : decode cX9_set 69 = .ok (.ireturn, 1) := by decide +kernel
theorem dX9_reset_0 : decode cX9_reset 0 = .ok (.aload_n 0, 1) := by decide +kernel
theorem dX9_reset_1 : decode cX9_reset 1 = .ok (.invokevirtual 63, 3) := by decide +kernel
theorem dX9_reset_4 : decode cX9_reset 4 = .ok (.aload_n 0, 1) := by decide +kernel
theorem dX9_reset_5 : decode cX9_reset 5 = .ok (.getfield 7, 3) := by decide +kernel
theorem dX9_reset_8 : decode cX9_reset 8 = .ok (.bipush 81, 2) := by decide +kernel
theorem dX9_reset_10 : decode cX9_reset 10 = .ok (.iaload, 1) := by decide +kernel
theorem dX9_reset_11 : decode cX9_reset 11 = .ok (.istore_n 1, 1) := by decide +kernel
theorem dX9_reset_12 : decode cX9_reset 12 = .ok (.aload_n 0, 1) := by decide +kernel
theorem dX9_reset_13 : decode cX9_reset 13 = .ok (.getfield 7, 3) := by decide +kernel
theorem dX9_reset_16 : decode cX9_reset 16 = .ok (.bipush 81, 2) := by decide +kernel
theorem dX9_reset_18 : decode cX9_reset 18 = .ok (.iconst 0, 1) := by decide +kernel
theorem dX9_reset_19 : decode cX9_reset 19 = .ok (.iastore, 1) := by decide +kernel
theorem dX9_reset_20 : decode cX9_reset 20 = .ok (.aload_n 0, 1) := by decide +kernel
theorem dX9_reset_21 : decode cX9_reset 21 = .ok (.getfield 7, 3) := by decide +kernel
theorem dX9_reset_24 : decode cX9_reset 24 = .ok (.bipush 82, 2) := by decide +kernel
theorem dX9_reset_26 : decode cX9_reset 26 = .ok (.iconst 0, 1) := by decide +kernel
theorem dX9_reset_27 : decode cX9_reset 27 = .ok (.iastore, 1) := by decide +kernel
theorem dX9_reset_28 : decode cX9_reset 28 = .ok (.aload_n 0, 1) := by decide +kernel
theorem dX9_reset_29 : decode cX9_reset 29 = .ok (.getfield 7, 3) := by decide +kernel
theorem dX9_reset_32 : decode cX9_reset 32 = .ok (.bipush 83, 2) := by decide +kernel
theorem dX9_reset_34 : decode cX9_reset 34 = .ok (.iconst 0, 1) := by decide +kernel
theorem dX9_reset_35 : decode cX9_reset 35 = .ok (.iastore, 1) := by decide +kernel
theorem dX9_reset_36 : decode cX9_reset 36 = .ok (.aload_n 0, 1) := by decide +kernel
theorem dX9_reset_37 : decode cX9_reset 37 = .ok (.getfield 7, 3) := by decide +kernel
theorem dX9_reset_40 : decode cX9_reset 40 = .ok (.bipush 84, 2) := by decide +kernel
theorem dX9_reset_42 : decode cX9_reset 42 = .ok (.iconst 0, 1) := by decide +kernel
theorem dX9_reset_43 : decode cX9_reset 43 = .ok (.iastore, 1) := by decide +kernel
theorem dX9_reset_44 : decode cX9_reset 44 = .ok (.aload_n 0, 1) := by decide +kernel
theorem dX9_reset_45 : decode cX9_reset 45 = .ok (.getfield 13, 3) := by decide +kernel
theorem dX9_reset_48 : decode cX9_reset 48 = .ok (.iconst 0, 1) := by decide +kernel
theorem dX9_reset_49 : decode cX9_reset 49 = .ok (.lconst 0, 1) := by decide +kernel
theorem dX9_reset_50 : decode cX9_reset 50 = .ok (.lastore, 1) := by decide +kernel
theorem dX9_reset_51 : decode cX9_reset 51 = .ok (.aload_n 0, 1) := by decide +kernel
theorem dX9_reset_52 : decode cX9_reset 52 = .ok (.iload_n 1, 1) := by decide +kernel
theorem dX9_reset_53 : decode cX9_reset 53 = .ok (.invokevirtual 69, 3) := by decide +kernel
theorem dX9_reset_56 : decode cX9_reset 56 = .ok (.ireturn, 1) := by decide +kernel
theorem dX9_tapOf_0 : decode cX9_tapOf 0 = .ok (.iload_n 1, 1) := by decide +kernel
theorem dX9_tapOf_1 : decode cX9_tapOf 1 = .ok (.iconst 0, 1) := by decide +kernel
theorem dX9_tapOf_2 : decode cX9_tapOf 2 = .ok (.iconst 4, 1) := by decide +kernel
theorem dX9_tapOf_3 : decode cX9_tapOf 3 = .ok (.invokestatic 54, 3) := by decide +kernel
theorem dX9_tapOf_6 : decode cX9_tapOf 6 = .ok (.ifCond .eq 12, 3) := by decide +kernel
theorem dX9_tapOf_9 : decode cX9_tapOf 9 = .ok (.iload_n 2, 1) := by decide +kernel
theorem dX9_tapOf_10 : decode cX9_tapOf 10 = .ok (.iconst 0, 1) := by decide +kernel
theorem dX9_tapOf_11 : decode cX9_tapOf 11 = .ok (.iconst 4, 1) := by decide +kernel
theorem dX9_tapOf_12 : decode cX9_tapOf 12 = .ok (.invokestatic 54, 3) := by decide +kernel
theorem dX9_tapOf_15 : decode cX9_tapOf 15 = .ok (.ifCond .ne 6, 3) := by decide +kernel
theorem dX9_tapOf_18 : decode cX9_tapOf 18 = .ok (.ldc 28, 2) := by decide +kernel
theorem dX9_tapOf_20 : decode cX9_tapOf 20 = .ok (.ireturn, 1) := by decide +kernel
theorem dX9_tapOf_21 : decode cX9_tapOf 21 = .ok (.iload_n 1, 1) := by decide +kernel
theorem dX9_tapOf_22 : decode cX9_tapOf 22 = .ok (.iconst 4, 1) := by decide +kernel
theorem dX9_tapOf_23 : decode cX9_tapOf 23 = .ok (.if_icmp .ge 18, 3) := by decide +kernel
theorem dX9_tapOf_26 : decode cX9_tapOf 26 = .ok (.aload_n 0, 1) := by decide +kernel
theorem dX9_tapOf_27 : decode cX9_tapOf 27 = .ok (.getfield 7, 3) := by decide +kernel
theorem dX9_tapOf_30 : decode cX9_tapOf 30 = .ok (.bipush 65, 2) := by decide +kernel
theorem dX9_tapOf_32 : decode cX9_tapOf 32 = .ok (.iload_n 1, 1) := by decide +kernel
theorem dX9_tapOf_33 : decode cX9_tapOf 33 = .ok (.iadd, 1) := by decide +kernel
theorem dX9_tapOf_34 : decode cX9_tapOf 34 = .ok (.iaload, 1) := by decide +kernel
theorem dX9_tapOf_35 : decode cX9_tapOf 35 = .ok (.ifCond .ne 6, 3) := by decide +kernel
theorem dX9_tapOf_38 : decode cX9_tapOf 38 = .ok (.ldc 88, 2) := by decide +kernel
theorem dX9_tapOf_40 : decode cX9_tapOf 40 = .ok (.ireturn, 1) := by decide +kernel
theorem dX9_tapOf_41 : decode cX9_tapOf 41 = .ok (.iload_n 2, 1) := by decide +kernel
theorem dX9_tapOf_42 : decode cX9_tapOf 42 = .ok (.tableswitch 72 0 3 #[30, 40, 50, 65], 30) := by decide +kernel
theorem dX9_tapOf_72 : decode cX9_tapOf 72 = .ok (.aload_n 0, 1) := by decide +kernel
theorem dX9_tapOf_73 : decode cX9_tapOf 73 = .ok (.getfield 7, 3) := by decide +kernel
theorem dX9_tapOf_76 : decode cX9_tapOf 76 = .ok (.bipush 69, 2) := by decide +kernel
theorem dX9_tapOf_78 : decode cX9_tapOf 78 = .ok (.iload_n 1, 1) := by decide +kernel
theorem dX9_tapOf_79 : decode cX9_tapOf 79 = .ok (.iadd, 1) := by decide +kernel
theorem dX9_tapOf_80 : decode cX9_tapOf 80 = .ok (.iaload, 1) := by decide +kernel
theorem dX9_tapOf_81 : decode cX9_tapOf 81 = .ok (.ireturn, 1) := by decide +kernel
theorem dX9_tapOf_82 : decode cX9_tapOf 82 = .ok (.aload_n 0, 1) := by decide +kernel
theorem dX9_tapOf_83 : decode cX9_tapOf 83 = .ok (.getfield 7, 3) := by decide +kernel
theorem dX9_tapOf_86 : decode cX9_tapOf 86 = .ok (.bipush 74, 2) := by decide +kernel
theorem dX9_tapOf_88 : decode cX9_tapOf 88 = .ok (.iload_n 1, 1) := by decide +kernel
theorem dX9_tapOf_89 : decode cX9_tapOf 89 = .ok (.iadd, 1) := by decide +kernel
theorem dX9_tapOf_90 : decode cX9_tapOf 90 = .ok (.iaload, 1) := by decide +kernel
theorem dX9_tapOf_91 : decode cX9_tapOf 91 = .ok (.ireturn, 1) := by decide +kernel
theorem dX9_tapOf_92 : decode cX9_tapOf 92 = .ok (.aload_n 0, 1) := by decide +kernel
theorem dX9_tapOf_93 : decode cX9_tapOf 93 = .ok (.iconst 0, 1) := by decide +kernel
theorem dX9_tapOf_94 : decode cX9_tapOf 94 = .ok (.iload_n 1, 1) := by decide +kernel
theorem dX9_tapOf_95 : decode cX9_tapOf 95 = .ok (.invokevirtual 37, 3) := by decide +kernel
theorem dX9_tapOf_98 : decode cX9_tapOf 98 = .ok (.ifCond .eq 7, 3) := by decide +kernel
theorem dX9_tapOf_101 : decode cX9_tapOf 101 = .ok (.iconst 1, 1) := by decide +kernel
theorem dX9_tapOf_102 : decode cX9_tapOf 102 = .ok (.goto 4, 3) := by decide +kernel
theorem dX9_tapOf_105 : decode cX9_tapOf 105 = .ok (.iconst 0, 1) := by decide +kernel
theorem dX9_tapOf_106 : decode cX9_tapOf 106 = .ok (.ireturn, 1) := by decide +kernel
theorem dX9_tapOf_107 : decode cX9_tapOf 107 = .ok (.aload_n 0, 1) := by decide +kernel
theorem dX9_tapOf_108 : decode cX9_tapOf 108 = .ok (.iconst 0, 1) := by decide +kernel
theorem dX9_tapOf_109 : decode cX9_tapOf 109 = .ok (.iload_n 1, 1) := by decide +kernel
theorem dX9_tapOf_110 : decode cX9_tapOf 110 = .ok (.invokevirtual 41, 3) := by decide +kernel
theorem dX9_tapOf_113 : decode cX9_tapOf 113 = .ok (.ireturn, 1) := by decide +kernel
theorem dX9_tapOf_114 : decode cX9_tapOf 114 = .ok (.aload_n 0, 1) := by decide +kernel
theorem dX9_tapOf_115 : decode cX9_tapOf 115 = .ok (.iconst 0, 1) := by decide +kernel
theorem dX9_tapOf_116 : decode cX9_tapOf 116 = .ok (.iload_n 1, 1) := by decide +kernel
theorem dX9_tapOf_117 : decode cX9_tapOf 117 = .ok (.invokevirtual 48, 3) := by decide +kernel
theorem dX9_tapOf_120 : decode cX9_tapOf 120 = .ok (.ireturn, 1) := by decide +kernel
theorem dX9_wordOf_0 : decode cX9_wordOf 0 = .ok (.iload_n 1, 1) := by decide +kernel
theorem dX9_wordOf_1 : decode cX9_wordOf 1 = .ok (.iconst 0, 1) := by decide +kernel
theorem dX9_wordOf_2 : decode cX9_wordOf 2 = .ok (.bipush 63, 2) := by decide +kernel
theorem dX9_wordOf_4 : decode cX9_wordOf 4 = .ok (.invokestatic 54, 3) := by decide +kernel
theorem dX9_wordOf_7 : decode cX9_wordOf 7 = .ok (.ifCond .ne 6, 3) := by decide +kernel
theorem dX9_wordOf_10 : decode cX9_wordOf 10 = .ok (.ldc 28, 2) := by decide +kernel
theorem dX9_wordOf_12 : decode cX9_wordOf 12 = .ok (.ireturn, 1) := by decide +kernel
theorem dX9_wordOf_13 : decode cX9_wordOf 13 = .ok (.iload_n 1, 1) := by decide +kernel
theorem dX9_wordOf_14 : decode cX9_wordOf 14 = .ok (.aload_n 0, 1) := by decide +kernel
theorem dX9_wordOf_15 : decode cX9_wordOf 15 = .ok (.iconst 0, 1) := by decide +kernel
theorem dX9_wordOf_16 : decode cX9_wordOf 16 = .ok (.invokevirtual 33, 3) := by decide +kernel
theorem dX9_wordOf_19 : decode cX9_wordOf 19 = .ok (.if_icmp .ge 12, 3) := by decide +kernel
theorem dX9_wordOf_22 : decode cX9_wordOf 22 = .ok (.aload_n 0, 1) := by decide +kernel
theorem dX9_wordOf_23 : decode cX9_wordOf 23 = .ok (.getfield 7, 3) := by decide +kernel
theorem dX9_wordOf_26 : decode cX9_wordOf 26 = .ok (.iload_n 1, 1) := by decide +kernel
theorem dX9_wordOf_27 : decode cX9_wordOf 27 = .ok (.iaload, 1) := by decide +kernel
theorem dX9_wordOf_28 : decode cX9_wordOf 28 = .ok (.goto 5, 3) := by decide +kernel
theorem dX9_wordOf_31 : decode cX9_wordOf 31 = .ok (.ldc 88, 2) := by decide +kernel
theorem dX9_wordOf_33 : decode cX9_wordOf 33 = .ok (.ireturn, 1) := by decide +kernel
theorem dX9_outputOf_0 : decode cX9_outputOf 0 = .ok (.iload_n 1, 1) := by decide +kernel
theorem dX9_outputOf_1 : decode cX9_outputOf 1 = .ok (.ifCond .ge 8, 3) := by decide +kernel
theorem dX9_outputOf_4 : decode cX9_outputOf 4 = .ok (.ldc 28, 2) := by decide +kernel
theorem dX9_outputOf_6 : decode cX9_outputOf 6 = .ok (.goto 28, 3) := by decide +kernel
theorem dX9_outputOf_9 : decode cX9_outputOf 9 = .ok (.iload_n 1, 1) := by decide +kernel
theorem dX9_outputOf_10 : decode cX9_outputOf 10 = .ok (.aload_n 0, 1) := by decide +kernel
theorem dX9_outputOf_11 : decode cX9_outputOf 11 = .ok (.getfield 7, 3) := by decide +kernel
theorem dX9_outputOf_14 : decode cX9_outputOf 14 = .ok (.bipush 97, 2) := by decide +kernel
theorem dX9_outputOf_16 : decode cX9_outputOf 16 = .ok (.iaload, 1) := by decide +kernel
theorem dX9_outputOf_17 : decode cX9_outputOf 17 = .ok (.if_icmp .ge 15, 3) := by decide +kernel
theorem dX9_outputOf_20 : decode cX9_outputOf 20 = .ok (.aload_n 0, 1) := by decide +kernel
theorem dX9_outputOf_21 : decode cX9_outputOf 21 = .ok (.getfield 7, 3) := by decide +kernel
theorem dX9_outputOf_24 : decode cX9_outputOf 24 = .ok (.bipush 85, 2) := by decide +kernel
theorem dX9_outputOf_26 : decode cX9_outputOf 26 = .ok (.iload_n 1, 1) := by decide +kernel
theorem dX9_outputOf_27 : decode cX9_outputOf 27 = .ok (.iadd, 1) := by decide +kernel
theorem dX9_outputOf_28 : decode cX9_outputOf 28 = .ok (.iaload, 1) := by decide +kernel
theorem dX9_outputOf_29 : decode cX9_outputOf 29 = .ok (.goto 5, 3) := by decide +kernel
theorem dX9_outputOf_32 : decode cX9_outputOf 32 = .ok (.ldc 88, 2) := by decide +kernel
theorem dX9_outputOf_34 : decode cX9_outputOf 34 = .ok (.ireturn, 1) := by decide +kernel
theorem dX9_meter_0 : decode cX9_meter 0 = .ok (.iload_n 1, 1) := by decide +kernel
theorem dX9_meter_1 : decode cX9_meter 1 = .ok (.tableswitch 102 0 4 #[35, 43, 51, 59, 67], 35) := by decide +kernel
theorem dX9_meter_36 : decode cX9_meter 36 = .ok (.aload_n 0, 1) := by decide +kernel
theorem dX9_meter_37 : decode cX9_meter 37 = .ok (.getfield 7, 3) := by decide +kernel
theorem dX9_meter_40 : decode cX9_meter 40 = .ok (.bipush 81, 2) := by decide +kernel
theorem dX9_meter_42 : decode cX9_meter 42 = .ok (.iaload, 1) := by decide +kernel
theorem dX9_meter_43 : decode cX9_meter 43 = .ok (.ireturn, 1) := by decide +kernel
theorem dX9_meter_44 : decode cX9_meter 44 = .ok (.aload_n 0, 1) := by decide +kernel
theorem dX9_meter_45 : decode cX9_meter 45 = .ok (.getfield 7, 3) := by decide +kernel
theorem dX9_meter_48 : decode cX9_meter 48 = .ok (.bipush 82, 2) := by decide +kernel
theorem dX9_meter_50 : decode cX9_meter 50 = .ok (.iaload, 1) := by decide +kernel
theorem dX9_meter_51 : decode cX9_meter 51 = .ok (.ireturn, 1) := by decide +kernel
theorem dX9_meter_52 : decode cX9_meter 52 = .ok (.aload_n 0, 1) := by decide +kernel
theorem dX9_meter_53 : decode cX9_meter 53 = .ok (.getfield 7, 3) := by decide +kernel
theorem dX9_meter_56 : decode cX9_meter 56 = .ok (.bipush 83, 2) := by decide +kernel
theorem dX9_meter_58 : decode cX9_meter 58 = .ok (.iaload, 1) := by decide +kernel
theorem dX9_meter_59 : decode cX9_meter 59 = .ok (.ireturn, 1) := by decide +kernel
theorem dX9_meter_60 : decode cX9_meter 60 = .ok (.aload_n 0, 1) := by decide +kernel
theorem dX9_meter_61 : decode cX9_meter 61 = .ok (.getfield 7, 3) := by decide +kernel
theorem dX9_meter_64 : decode cX9_meter 64 = .ok (.bipush 84, 2) := by decide +kernel
theorem dX9_meter_66 : decode cX9_meter 66 = .ok (.iaload, 1) := by decide +kernel
theorem dX9_meter_67 : decode cX9_meter 67 = .ok (.ireturn, 1) := by decide +kernel
theorem dX9_meter_68 : decode cX9_meter 68 = .ok (.aload_n 0, 1) := by decide +kernel
theorem dX9_meter_69 : decode cX9_meter 69 = .ok (.getfield 7, 3) := by decide +kernel
theorem dX9_meter_72 : decode cX9_meter 72 = .ok (.bipush 81, 2) := by decide +kernel
theorem dX9_meter_74 : decode cX9_meter 74 = .ok (.iaload, 1) := by decide +kernel
theorem dX9_meter_75 : decode cX9_meter 75 = .ok (.ifCond .ne 8, 3) := by decide +kernel
theorem dX9_meter_78 : decode cX9_meter 78 = .ok (.ldc 88, 2) := by decide +kernel
theorem dX9_meter_80 : decode cX9_meter 80 = .ok (.goto 22, 3) := by decide +kernel
theorem dX9_meter_83 : decode cX9_meter 83 = .ok (.aload_n 0, 1) := by decide +kernel
theorem dX9_meter_84 : decode cX9_meter 84 = .ok (.getfield 13, 3) := by decide +kernel
theorem dX9_meter_87 : decode cX9_meter 87 = .ok (.iconst 0, 1) := by decide +kernel
theorem dX9_meter_88 : decode cX9_meter 88 = .ok (.laload, 1) := by decide +kernel
theorem dX9_meter_89 : decode cX9_meter 89 = .ok (.l2f, 1) := by decide +kernel
theorem dX9_meter_90 : decode cX9_meter 90 = .ok (.aload_n 0, 1) := by decide +kernel
theorem dX9_meter_91 : decode cX9_meter 91 = .ok (.getfield 7, 3) := by decide +kernel
theorem dX9_meter_94 : decode cX9_meter 94 = .ok (.bipush 81, 2) := by decide +kernel
theorem dX9_meter_96 : decode cX9_meter 96 = .ok (.iaload, 1) := by decide +kernel
theorem dX9_meter_97 : decode cX9_meter 97 = .ok (.i2f, 1) := by decide +kernel
theorem dX9_meter_98 : decode cX9_meter 98 = .ok (.fdiv, 1) := by decide +kernel
theorem dX9_meter_99 : decode cX9_meter 99 = .ok (.invokestatic 89, 3) := by decide +kernel
theorem dX9_meter_102 : decode cX9_meter 102 = .ok (.ireturn, 1) := by decide +kernel
theorem dX9_meter_103 : decode cX9_meter 103 = .ok (.ldc 28, 2) := by decide +kernel
theorem dX9_meter_105 : decode cX9_meter 105 = .ok (.ireturn, 1) := by decide +kernel
theorem dX9_silenced_0 : decode cX9_silenced 0 = .ok (.aload_n 0, 1) := by decide +kernel
theorem dX9_silenced_1 : decode cX9_silenced 1 = .ok (.iconst 0, 1) := by decide +kernel
theorem dX9_silenced_2 : decode cX9_silenced 2 = .ok (.iconst 5, 1) := by decide +kernel
theorem dX9_silenced_3 : decode cX9_silenced 3 = .ok (.invokevirtual 24, 3) := by decide +kernel
theorem dX9_silenced_6 : decode cX9_silenced 6 = .ok (.iconst 0, 1) := by decide +kernel
theorem dX9_silenced_7 : decode cX9_silenced 7 = .ok (.istore_n 1, 1) := by decide +kernel
theorem dX9_silenced_8 : decode cX9_silenced 8 = .ok (.iload_n 1, 1) := by decide +kernel
theorem dX9_silenced_9 : decode cX9_silenced 9 = .ok (.bipush 64, 2) := by decide +kernel
theorem dX9_silenced_11 : decode cX9_silenced 11 = .ok (.if_icmp .ge 20, 3) := by decide +kernel
theorem dX9_silenced_14 : decode cX9_silenced 14 = .ok (.aload_n 0, 1) := by decide +kernel
theorem dX9_silenced_15 : decode cX9_silenced 15 = .ok (.getfield 7, 3) := by decide +kernel
theorem dX9_silenced_18 : decode cX9_silenced 18 = .ok (.sipush 500, 3) := by decide +kernel
theorem dX9_silenced_21 : decode cX9_silenced 21 = .ok (.iload_n 1, 1) := by decide +kernel
theorem dX9_silenced_22 : decode cX9_silenced 22 = .ok (.iadd, 1) := by decide +kernel
theorem dX9_silenced_23 : decode cX9_silenced 23 = .ok (.iconst 0, 1) := by decide +kernel
theorem dX9_silenced_24 : decode cX9_silenced 24 = .ok (.iastore, 1) := by decide +kernel
theorem dX9_silenced_25 : decode cX9_silenced 25 = .ok (.iinc 1 1, 3) := by decide +kernel
theorem dX9_silenced_28 : decode cX9_silenced 28 = .ok (.goto (-20), 3) := by decide +kernel
theorem dX9_silenced_31 : decode cX9_silenced 31 = .ok (.return_, 1) := by decide +kernel
theorem dX9_echo_0 : decode cX9_echo 0 = .ok (.iload_n 1, 1) := by decide +kernel
theorem dX9_echo_1 : decode cX9_echo 1 = .ok (.sipush (-20000), 3) := by decide +kernel
theorem dX9_echo_4 : decode cX9_echo 4 = .ok (.sipush 20000, 3) := by decide +kernel
theorem dX9_echo_7 : decode cX9_echo 7 = .ok (.invokestatic 54, 3) := by decide +kernel
theorem dX9_echo_10 : decode cX9_echo 10 = .ok (.ifCond .eq 14, 3) := by decide +kernel
theorem dX9_echo_13 : decode cX9_echo 13 = .ok (.iload_n 2, 1) := by decide +kernel
theorem dX9_echo_14 : decode cX9_echo 14 = .ok (.iconst 0, 1) := by decide +kernel
theorem dX9_echo_15 : decode cX9_echo 15 = .ok (.sipush 200, 3) := by decide +kernel
theorem dX9_echo_18 : decode cX9_echo 18 = .ok (.invokestatic 54, 3) := by decide +kernel
theorem dX9_echo_21 : decode cX9_echo 21 = .ok (.ifCond .ne 6, 3) := by decide +kernel
theorem dX9_echo_24 : decode cX9_echo 24 = .ok (.ldc 28, 2) := by decide +kernel
theorem dX9_echo_26 : decode cX9_echo 26 = .ok (.ireturn, 1) := by decide +kernel
theorem dX9_echo_27 : decode cX9_echo 27 = .ok (.aload_n 0, 1) := by decide +kernel
theorem dX9_echo_28 : decode cX9_echo 28 = .ok (.invokevirtual 95, 3) := by decide +kernel
theorem dX9_echo_31 : decode cX9_echo 31 = .ok (.aload_n 0, 1) := by decide +kernel
theorem dX9_echo_32 : decode cX9_echo 32 = .ok (.iconst 5, 1) := by decide +kernel
theorem dX9_echo_33 : decode cX9_echo 33 = .ok (.iload_n 1, 1) := by decide +kernel
theorem dX9_echo_34 : decode cX9_echo 34 = .ok (.invokevirtual 58, 3) := by decide +kernel
theorem dX9_echo_37 : decode cX9_echo 37 = .ok (.istore_n 3, 1) := by decide +kernel
theorem dX9_echo_38 : decode cX9_echo 38 = .ok (.iconst 0, 1) := by decide +kernel
theorem dX9_echo_39 : decode cX9_echo 39 = .ok (.istore 4, 2) := by decide +kernel
theorem dX9_echo_41 : decode cX9_echo 41 = .ok (.iload 4, 2) := by decide +kernel
theorem dX9_echo_43 : decode cX9_echo 43 = .ok (.iload_n 2, 1) := by decide +kernel
theorem dX9_echo_44 : decode cX9_echo 44 = .ok (.if_icmp .ge 16, 3) := by decide +kernel
theorem dX9_echo_47 : decode cX9_echo 47 = .ok (.aload_n 0, 1) := by decide +kernel
theorem dX9_echo_48 : decode cX9_echo 48 = .ok (.iconst 5, 1) := by decide +kernel
theorem dX9_echo_49 : decode cX9_echo 49 = .ok (.iconst 0, 1) := by decide +kernel
theorem dX9_echo_50 : decode cX9_echo 50 = .ok (.invokevirtual 58, 3) := by decide +kernel
theorem dX9_echo_53 : decode cX9_echo 53 = .ok (.istore_n 3, 1) := by decide +kernel
theorem dX9_echo_54 : decode cX9_echo 54 = .ok (.iinc 4 1, 3) := by decide +kernel
theorem dX9_echo_57 : decode cX9_echo 57 = .ok (.goto (-16), 3) := by decide +kernel
theorem dX9_echo_60 : decode cX9_echo 60 = .ok (.iload_n 3, 1) := by decide +kernel
theorem dX9_echo_61 : decode cX9_echo 61 = .ok (.ireturn, 1) := by decide +kernel
theorem dX9_quietAfter_0 : decode cX9_quietAfter 0 = .ok (.iload_n 1, 1) := by decide +kernel
theorem dX9_quietAfter_1 : decode cX9_quietAfter 1 = .ok (.iconst 0, 1) := by decide +kernel
theorem dX9_quietAfter_2 : decode cX9_quietAfter 2 = .ok (.sipush 20000, 3) := by decide +kernel
theorem dX9_quietAfter_5 : decode cX9_quietAfter 5 = .ok (.invokestatic 54, 3) := by decide +kernel
theorem dX9_quietAfter_8 : decode cX9_quietAfter 8 = .ok (.ifCond .ne 6, 3) := by decide +kernel
theorem dX9_quietAfter_11 : decode cX9_quietAfter 11 = .ok (.ldc 28, 2) := by decide +kernel
theorem dX9_quietAfter_13 : decode cX9_quietAfter 13 = .ok (.ireturn, 1) := by decide +kernel
theorem dX9_quietAfter_14 : decode cX9_quietAfter 14 = .ok (.aload_n 0, 1) := by decide +kernel
theorem dX9_quietAfter_15 : decode cX9_quietAfter 15 = .ok (.iconst 0, 1) := by decide +kernel
theorem dX9_quietAfter_16 : decode cX9_quietAfter 16 = .ok (.iconst 5, 1) := by decide +kernel
theorem dX9_quietAfter_17 : decode cX9_quietAfter 17 = .ok (.invokevirtual 24, 3) := by decide +kernel
theorem dX9_quietAfter_20 : decode cX9_quietAfter 20 = .ok (.iconst 0, 1) := by decide +kernel
theorem dX9_quietAfter_21 : decode cX9_quietAfter 21 = .ok (.istore_n 2, 1) := by decide +kernel
theorem dX9_quietAfter_22 : decode cX9_quietAfter 22 = .ok (.iload_n 2, 1) := by decide +kernel
theorem dX9_quietAfter_23 : decode cX9_quietAfter 23 = .ok (.sipush 500, 3) := by decide +kernel
theorem dX9_quietAfter_26 : decode cX9_quietAfter 26 = .ok (.if_icmp .gt 27, 3) := by decide +kernel
theorem dX9_quietAfter_29 : decode cX9_quietAfter 29 = .ok (.aload_n 0, 1) := by decide +kernel
theorem dX9_quietAfter_30 : decode cX9_quietAfter 30 = .ok (.iconst 5, 1) := by decide +kernel
theorem dX9_quietAfter_31 : decode cX9_quietAfter 31 = .ok (.invokevirtual 98, 3) := by decide +kernel
theorem dX9_quietAfter_34 : decode cX9_quietAfter 34 = .ok (.iload_n 1, 1) := by decide +kernel
theorem dX9_quietAfter_35 : decode cX9_quietAfter 35 = .ok (.if_icmp .gt 5, 3) := by decide +kernel
theorem dX9_quietAfter_38 : decode cX9_quietAfter 38 = .ok (.iload_n 2, 1) := by decide +kernel
theorem dX9_quietAfter_39 : decode cX9_quietAfter 39 = .ok (.ireturn, 1) := by decide +kernel
theorem dX9_quietAfter_40 : decode cX9_quietAfter 40 = .ok (.aload_n 0, 1) := by decide +kernel
theorem dX9_quietAfter_41 : decode cX9_quietAfter 41 = .ok (.iconst 5, 1) := by decide +kernel
theorem dX9_quietAfter_42 : decode cX9_quietAfter 42 = .ok (.iconst 0, 1) := by decide +kernel
theorem dX9_quietAfter_43 : decode cX9_quietAfter 43 = .ok (.invokevirtual 58, 3) := by decide +kernel
theorem dX9_quietAfter_46 : decode cX9_quietAfter 46 = .ok (.pop, 1) := by decide +kernel
theorem dX9_quietAfter_47 : decode cX9_quietAfter 47 = .ok (.iinc 2 1, 3) := by decide +kernel
theorem dX9_quietAfter_50 : decode cX9_quietAfter 50 = .ok (.goto (-28), 3) := by decide +kernel
theorem dX9_quietAfter_53 : decode cX9_quietAfter 53 = .ok (.ldc 88, 2) := by decide +kernel
theorem dX9_quietAfter_55 : decode cX9_quietAfter 55 = .ok (.ireturn, 1) := by decide +kernel
theorem dX9_loudest_0 : decode cX9_loudest 0 = .ok (.iconst 0, 1) := by decide +kernel
theorem dX9_loudest_1 : decode cX9_loudest 1 = .ok (.istore_n 1, 1) := by decide +kernel
theorem dX9_loudest_2 : decode cX9_loudest 2 = .ok (.iconst 0, 1) := by decide +kernel
theorem dX9_loudest_3 : decode cX9_loudest 3 = .ok (.istore_n 2, 1) := by decide +kernel
theorem dX9_loudest_4 : decode cX9_loudest 4 = .ok (.iload_n 2, 1) := by decide +kernel
theorem dX9_loudest_5 : decode cX9_loudest 5 = .ok (.iconst 4, 1) := by decide +kernel
theorem dX9_loudest_6 : decode cX9_loudest 6 = .ok (.if_icmp .ge 62, 3) := by decide +kernel
theorem dX9_loudest_9 : decode cX9_loudest 9 = .ok (.iload_n 1, 1) := by decide +kernel
theorem dX9_loudest_10 : decode cX9_loudest 10 = .ok (.aload_n 0, 1) := by decide +kernel
theorem dX9_loudest_11 : decode cX9_loudest 11 = .ok (.getfield 7, 3) := by decide +kernel
theorem dX9_loudest_14 : decode cX9_loudest 14 = .ok (.bipush 65, 2) := by decide +kernel
theorem dX9_loudest_16 : decode cX9_loudest 16 = .ok (.iload_n 2, 1) := by decide +kernel
theorem dX9_loudest_17 : decode cX9_loudest 17 = .ok (.iadd, 1) := by decide +kernel
theorem dX9_loudest_18 : decode cX9_loudest 18 = .ok (.iaload, 1) := by decide +kernel
theorem dX9_loudest_19 : decode cX9_loudest 19 = .ok (.iconst 1, 1) := by decide +kernel
theorem dX9_loudest_20 : decode cX9_loudest 20 = .ok (.if_icmp .ne 39, 3) := by decide +kernel
theorem dX9_loudest_23 : decode cX9_loudest 23 = .ok (.aload_n 0, 1) := by decide +kernel
theorem dX9_loudest_24 : decode cX9_loudest 24 = .ok (.iconst 0, 1) := by decide +kernel
theorem dX9_loudest_25 : decode cX9_loudest 25 = .ok (.iload_n 2, 1) := by decide +kernel
theorem dX9_loudest_26 : decode cX9_loudest 26 = .ok (.invokevirtual 37, 3) := by decide +kernel
theorem dX9_loudest_29 : decode cX9_loudest 29 = .ok (.ifCond .ne 30, 3) := by decide +kernel
theorem dX9_loudest_32 : decode cX9_loudest 32 = .ok (.aload_n 0, 1) := by decide +kernel
theorem dX9_loudest_33 : decode cX9_loudest 33 = .ok (.getfield 7, 3) := by decide +kernel
theorem dX9_loudest_36 : decode cX9_loudest 36 = .ok (.bipush 74, 2) := by decide +kernel
theorem dX9_loudest_38 : decode cX9_loudest 38 = .ok (.iload_n 2, 1) := by decide +kernel
theorem dX9_loudest_39 : decode cX9_loudest 39 = .ok (.iadd, 1) := by decide +kernel
theorem dX9_loudest_40 : decode cX9_loudest 40 = .ok (.iaload, 1) := by decide +kernel
theorem dX9_loudest_41 : decode cX9_loudest 41 = .ok (.invokestatic 45, 3) := by decide +kernel
theorem dX9_loudest_44 : decode cX9_loudest 44 = .ok (.aload_n 0, 1) := by decide +kernel
theorem dX9_loudest_45 : decode cX9_loudest 45 = .ok (.getfield 7, 3) := by decide +kernel
theorem dX9_loudest_48 : decode cX9_loudest 48 = .ok (.bipush 79, 2) := by decide +kernel
theorem dX9_loudest_50 : decode cX9_loudest 50 = .ok (.iaload, 1) := by decide +kernel
theorem dX9_loudest_51 : decode cX9_loudest 51 = .ok (.imul, 1) := by decide +kernel
theorem dX9_loudest_52 : decode cX9_loudest 52 = .ok (.sipush 1000, 3) := by decide +kernel
theorem dX9_loudest_55 : decode cX9_loudest 55 = .ok (.idiv, 1) := by decide +kernel
theorem dX9_loudest_56 : decode cX9_loudest 56 = .ok (.goto 4, 3) := by decide +kernel
theorem dX9_loudest_59 : decode cX9_loudest 59 = .ok (.iconst 0, 1) := by decide +kernel
theorem dX9_loudest_60 : decode cX9_loudest 60 = .ok (.iadd, 1) := by decide +kernel
theorem dX9_loudest_61 : decode cX9_loudest 61 = .ok (.istore_n 1, 1) := by decide +kernel
theorem dX9_loudest_62 : decode cX9_loudest 62 = .ok (.iinc 2 1, 3) := by decide +kernel
theorem dX9_loudest_65 : decode cX9_loudest 65 = .ok (.goto (-61), 3) := by decide +kernel
theorem dX9_loudest_68 : decode cX9_loudest 68 = .ok (.iload_n 1, 1) := by decide +kernel
theorem dX9_loudest_69 : decode cX9_loudest 69 = .ok (.ireturn, 1) := by decide +kernel
theorem dX9_isQuiet_0 : decode cX9_isQuiet 0 = .ok (.aload_n 0, 1) := by decide +kernel
theorem dX9_isQuiet_1 : decode cX9_isQuiet 1 = .ok (.invokevirtual 95, 3) := by decide +kernel
theorem dX9_isQuiet_4 : decode cX9_isQuiet 4 = .ok (.aload_n 0, 1) := by decide +kernel
theorem dX9_isQuiet_5 : decode cX9_isQuiet 5 = .ok (.getfield 7, 3) := by decide +kernel
theorem dX9_isQuiet_8 : decode cX9_isQuiet 8 = .ok (.sipush 578, 3) := by decide +kernel
theorem dX9_isQuiet_11 : decode cX9_isQuiet 11 = .ok (.iload_n 1, 1) := by decide +kernel
theorem dX9_isQuiet_12 : decode cX9_isQuiet 12 = .ok (.iastore, 1) := by decide +kernel
theorem dX9_isQuiet_13 : decode cX9_isQuiet 13 = .ok (.aload_n 0, 1) := by decide +kernel
theorem dX9_isQuiet_14 : decode cX9_isQuiet 14 = .ok (.iconst 5, 1) := by decide +kernel
theorem dX9_isQuiet_15 : decode cX9_isQuiet 15 = .ok (.sipush 20000, 3) := by decide +kernel
theorem dX9_isQuiet_18 : decode cX9_isQuiet 18 = .ok (.invokevirtual 58, 3) := by decide +kernel
theorem dX9_isQuiet_21 : decode cX9_isQuiet 21 = .ok (.pop, 1) := by decide +kernel
theorem dX9_isQuiet_22 : decode cX9_isQuiet 22 = .ok (.iconst 0, 1) := by decide +kernel
theorem dX9_isQuiet_23 : decode cX9_isQuiet 23 = .ok (.istore 4, 2) := by decide +kernel
theorem dX9_isQuiet_25 : decode cX9_isQuiet 25 = .ok (.iload 4, 2) := by decide +kernel
theorem dX9_isQuiet_27 : decode cX9_isQuiet 27 = .ok (.iload_n 2, 1) := by decide +kernel
theorem dX9_isQuiet_28 : decode cX9_isQuiet 28 = .ok (.if_icmp .ge 16, 3) := by decide +kernel
theorem dX9_isQuiet_31 : decode cX9_isQuiet 31 = .ok (.aload_n 0, 1) := by decide +kernel
theorem dX9_isQuiet_32 : decode cX9_isQuiet 32 = .ok (.iconst 5, 1) := by decide +kernel
theorem dX9_isQuiet_33 : decode cX9_isQuiet 33 = .ok (.iconst 0, 1) := by decide +kernel
theorem dX9_isQuiet_34 : decode cX9_isQuiet 34 = .ok (.invokevirtual 58, 3) := by decide +kernel
theorem dX9_isQuiet_37 : decode cX9_isQuiet 37 = .ok (.pop, 1) := by decide +kernel
theorem dX9_isQuiet_38 : decode cX9_isQuiet 38 = .ok (.iinc 4 1, 3) := by decide +kernel
theorem dX9_isQuiet_41 : decode cX9_isQuiet 41 = .ok (.goto (-16), 3) := by decide +kernel
theorem dX9_isQuiet_44 : decode cX9_isQuiet 44 = .ok (.aload_n 0, 1) := by decide +kernel
theorem dX9_isQuiet_45 : decode cX9_isQuiet 45 = .ok (.iconst 5, 1) := by decide +kernel
theorem dX9_isQuiet_46 : decode cX9_isQuiet 46 = .ok (.invokevirtual 98, 3) := by decide +kernel
theorem dX9_isQuiet_49 : decode cX9_isQuiet 49 = .ok (.iload_n 3, 1) := by decide +kernel
theorem dX9_isQuiet_50 : decode cX9_isQuiet 50 = .ok (.if_icmp .gt 7, 3) := by decide +kernel
theorem dX9_isQuiet_53 : decode cX9_isQuiet 53 = .ok (.iconst 1, 1) := by decide +kernel
theorem dX9_isQuiet_54 : decode cX9_isQuiet 54 = .ok (.goto 4, 3) := by decide +kernel
theorem dX9_isQuiet_57 : decode cX9_isQuiet 57 = .ok (.iconst 0, 1) := by decide +kernel
theorem dX9_isQuiet_58 : decode cX9_isQuiet 58 = .ok (.ireturn, 1) := by decide +kernel
theorem dX9_safeGain_0 : decode cX9_safeGain 0 = .ok (.iload_n 1, 1) := by decide +kernel
theorem dX9_safeGain_1 : decode cX9_safeGain 1 = .ok (.iconst 1, 1) := by decide +kernel
theorem dX9_safeGain_2 : decode cX9_safeGain 2 = .ok (.sipush 200, 3) := by decide +kernel
theorem dX9_safeGain_5 : decode cX9_safeGain 5 = .ok (.invokestatic 54, 3) := by decide +kernel
theorem dX9_safeGain_8 : decode cX9_safeGain 8 = .ok (.ifCond .eq 14, 3) := by decide +kernel
theorem dX9_safeGain_11 : decode cX9_safeGain 11 = .ok (.iload_n 2, 1) := by decide +kernel
theorem dX9_safeGain_12 : decode cX9_safeGain 12 = .ok (.iconst 0, 1) := by decide +kernel
theorem dX9_safeGain_13 : decode cX9_safeGain 13 = .ok (.sipush 20000, 3) := by decide +kernel
theorem dX9_safeGain_16 : decode cX9_safeGain 16 = .ok (.invokestatic 54, 3) := by decide +kernel
theorem dX9_safeGain_19 : decode cX9_safeGain 19 = .ok (.ifCond .ne 6, 3) := by decide +kernel
theorem dX9_safeGain_22 : decode cX9_safeGain 22 = .ok (.ldc 28, 2) := by decide +kernel
theorem dX9_safeGain_24 : decode cX9_safeGain 24 = .ok (.ireturn, 1) := by decide +kernel
theorem dX9_safeGain_25 : decode cX9_safeGain 25 = .ok (.iconst 0, 1) := by decide +kernel
theorem dX9_safeGain_26 : decode cX9_safeGain 26 = .ok (.istore_n 3, 1) := by decide +kernel
theorem dX9_safeGain_27 : decode cX9_safeGain 27 = .ok (.sipush 950, 3) := by decide +kernel
theorem dX9_safeGain_30 : decode cX9_safeGain 30 = .ok (.istore 4, 2) := by decide +kernel
theorem dX9_safeGain_32 : decode cX9_safeGain 32 = .ok (.iload_n 3, 1) := by decide +kernel
theorem dX9_safeGain_33 : decode cX9_safeGain 33 = .ok (.iload 4, 2) := by decide +kernel
theorem dX9_safeGain_35 : decode cX9_safeGain 35 = .ok (.if_icmp .ge 39, 3) := by decide +kernel
theorem dX9_safeGain_38 : decode cX9_safeGain 38 = .ok (.iload_n 3, 1) := by decide +kernel
theorem dX9_safeGain_39 : decode cX9_safeGain 39 = .ok (.iload 4, 2) := by decide +kernel
theorem dX9_safeGain_41 : decode cX9_safeGain 41 = .ok (.iadd, 1) := by decide +kernel
theorem dX9_safeGain_42 : decode cX9_safeGain 42 = .ok (.iconst 1, 1) := by decide +kernel
theorem dX9_safeGain_43 : decode cX9_safeGain 43 = .ok (.iadd, 1) := by decide +kernel
theorem dX9_safeGain_44 : decode cX9_safeGain 44 = .ok (.iconst 2, 1) := by decide +kernel
theorem dX9_safeGain_45 : decode cX9_safeGain 45 = .ok (.idiv, 1) := by decide +kernel
theorem dX9_safeGain_46 : decode cX9_safeGain 46 = .ok (.istore 5, 2) := by decide +kernel
theorem dX9_safeGain_48 : decode cX9_safeGain 48 = .ok (.aload_n 0, 1) := by decide +kernel
theorem dX9_safeGain_49 : decode cX9_safeGain 49 = .ok (.iload 5, 2) := by decide +kernel
theorem dX9_safeGain_51 : decode cX9_safeGain 51 = .ok (.iload_n 1, 1) := by decide +kernel
theorem dX9_safeGain_52 : decode cX9_safeGain 52 = .ok (.iload_n 2, 1) := by decide +kernel
theorem dX9_safeGain_53 : decode cX9_safeGain 53 = .ok (.invokevirtual 101, 3) := by decide +kernel
theorem dX9_safeGain_56 : decode cX9_safeGain 56 = .ok (.ifCond .eq 9, 3) := by decide +kernel
theorem dX9_safeGain_59 : decode cX9_safeGain 59 = .ok (.iload 5, 2) := by decide +kernel
theorem dX9_safeGain_61 : decode cX9_safeGain 61 = .ok (.istore_n 3, 1) := by decide +kernel
theorem dX9_safeGain_62 : decode cX9_safeGain 62 = .ok (.goto 9, 3) := by decide +kernel
theorem dX9_safeGain_65 : decode cX9_safeGain 65 = .ok (.iload 5, 2) := by decide +kernel
theorem dX9_safeGain_67 : decode cX9_safeGain 67 = .ok (.iconst 1, 1) := by decide +kernel
theorem dX9_safeGain_68 : decode cX9_safeGain 68 = .ok (.isub, 1) := by decide +kernel
theorem dX9_safeGain_69 : decode cX9_safeGain 69 = .ok (.istore 4, 2) := by decide +kernel
theorem dX9_safeGain_71 : decode cX9_safeGain 71 = .ok (.goto (-39), 3) := by decide +kernel
theorem dX9_safeGain_74 : decode cX9_safeGain 74 = .ok (.iload_n 3, 1) := by decide +kernel
theorem dX9_safeGain_75 : decode cX9_safeGain 75 = .ok (.ireturn, 1) := by decide +kernel
theorem dX9_words_0 : decode cX9_words 0 = .ok (.iconst 0, 1) := by decide +kernel
theorem dX9_words_1 : decode cX9_words 1 = .ok (.istore_n 2, 1) := by decide +kernel
theorem dX9_words_2 : decode cX9_words 2 = .ok (.iconst 0, 1) := by decide +kernel
theorem dX9_words_3 : decode cX9_words 3 = .ok (.istore_n 3, 1) := by decide +kernel
theorem dX9_words_4 : decode cX9_words 4 = .ok (.iload_n 3, 1) := by decide +kernel
theorem dX9_words_5 : decode cX9_words 5 = .ok (.aload_n 0, 1) := by decide +kernel
theorem dX9_words_6 : decode cX9_words 6 = .ok (.iconst 0, 1) := by decide +kernel
theorem dX9_words_7 : decode cX9_words 7 = .ok (.invokevirtual 33, 3) := by decide +kernel
theorem dX9_words_10 : decode cX9_words 10 = .ok (.if_icmp .ge 42, 3) := by decide +kernel
theorem dX9_words_13 : decode cX9_words 13 = .ok (.iload_n 2, 1) := by decide +kernel
theorem dX9_words_14 : decode cX9_words 14 = .ok (.iload_n 1, 1) := by decide +kernel
theorem dX9_words_15 : decode cX9_words 15 = .ok (.ifCond .eq 15, 3) := by decide +kernel
theorem dX9_words_18 : decode cX9_words 18 = .ok (.aload_n 0, 1) := by decide +kernel
theorem dX9_words_19 : decode cX9_words 19 = .ok (.getfield 7, 3) := by decide +kernel
theorem dX9_words_22 : decode cX9_words 22 = .ok (.iload_n 3, 1) := by decide +kernel
theorem dX9_words_23 : decode cX9_words 23 = .ok (.iaload, 1) := by decide +kernel
theorem dX9_words_24 : decode cX9_words 24 = .ok (.invokestatic 45, 3) := by decide +kernel
theorem dX9_words_27 : decode cX9_words 27 = .ok (.goto 17, 3) := by decide +kernel
theorem dX9_words_30 : decode cX9_words 30 = .ok (.aload_n 0, 1) := by decide +kernel
theorem dX9_words_31 : decode cX9_words 31 = .ok (.getfield 7, 3) := by decide +kernel
theorem dX9_words_34 : decode cX9_words 34 = .ok (.iload_n 3, 1) := by decide +kernel
theorem dX9_words_35 : decode cX9_words 35 = .ok (.iaload, 1) := by decide +kernel
theorem dX9_words_36 : decode cX9_words 36 = .ok (.ifCond .eq 7, 3) := by decide +kernel
theorem dX9_words_39 : decode cX9_words 39 = .ok (.iconst 1, 1) := by decide +kernel
theorem dX9_words_40 : decode cX9_words 40 = .ok (.goto 4, 3) := by decide +kernel
theorem dX9_words_43 : decode cX9_words 43 = .ok (.iconst 0, 1) := by decide +kernel
theorem dX9_words_44 : decode cX9_words 44 = .ok (.iadd, 1) := by decide +kernel
theorem dX9_words_45 : decode cX9_words 45 = .ok (.istore_n 2, 1) := by decide +kernel
theorem dX9_words_46 : decode cX9_words 46 = .ok (.iinc 3 1, 3) := by decide +kernel
theorem dX9_words_49 : decode cX9_words 49 = .ok (.goto (-45), 3) := by decide +kernel
theorem dX9_words_52 : decode cX9_words 52 = .ok (.iload_n 2, 1) := by decide +kernel
theorem dX9_words_53 : decode cX9_words 53 = .ok (.ireturn, 1) := by decide +kernel
theorem dX9_taps_0 : decode cX9_taps 0 = .ok (.iconst 0, 1) := by decide +kernel
theorem dX9_taps_1 : decode cX9_taps 1 = .ok (.istore_n 2, 1) := by decide +kernel
theorem dX9_taps_2 : decode cX9_taps 2 = .ok (.iconst 0, 1) := by decide +kernel
theorem dX9_taps_3 : decode cX9_taps 3 = .ok (.istore_n 3, 1) := by decide +kernel
theorem dX9_taps_4 : decode cX9_taps 4 = .ok (.iload_n 3, 1) := by decide +kernel
theorem dX9_taps_5 : decode cX9_taps 5 = .ok (.iconst 4, 1) := by decide +kernel
theorem dX9_taps_6 : decode cX9_taps 6 = .ok (.if_icmp .ge 43, 3) := by decide +kernel
theorem dX9_taps_9 : decode cX9_taps 9 = .ok (.iload_n 2, 1) := by decide +kernel
theorem dX9_taps_10 : decode cX9_taps 10 = .ok (.aload_n 0, 1) := by decide +kernel
theorem dX9_taps_11 : decode cX9_taps 11 = .ok (.getfield 7, 3) := by decide +kernel
theorem dX9_taps_14 : decode cX9_taps 14 = .ok (.bipush 65, 2) := by decide +kernel
theorem dX9_taps_16 : decode cX9_taps 16 = .ok (.iload_n 3, 1) := by decide +kernel
theorem dX9_taps_17 : decode cX9_taps 17 = .ok (.iadd, 1) := by decide +kernel
theorem dX9_taps_18 : decode cX9_taps 18 = .ok (.iaload, 1) := by decide +kernel
theorem dX9_taps_19 : decode cX9_taps 19 = .ok (.iconst 1, 1) := by decide +kernel
theorem dX9_taps_20 : decode cX9_taps 20 = .ok (.if_icmp .ne 20, 3) := by decide +kernel
theorem dX9_taps_23 : decode cX9_taps 23 = .ok (.iload_n 1, 1) := by decide +kernel
theorem dX9_taps_24 : decode cX9_taps 24 = .ok (.ifCond .eq 12, 3) := by decide +kernel
theorem dX9_taps_27 : decode cX9_taps 27 = .ok (.aload_n 0, 1) := by decide +kernel
theorem dX9_taps_28 : decode cX9_taps 28 = .ok (.iconst 0, 1) := by decide +kernel
theorem dX9_taps_29 : decode cX9_taps 29 = .ok (.iload_n 3, 1) := by decide +kernel
theorem dX9_taps_30 : decode cX9_taps 30 = .ok (.invokevirtual 37, 3) := by decide +kernel
theorem dX9_taps_33 : decode cX9_taps 33 = .ok (.ifCond .eq 7, 3) := by decide +kernel
theorem dX9_taps_36 : decode cX9_taps 36 = .ok (.iconst 1, 1) := by decide +kernel
theorem dX9_taps_37 : decode cX9_taps 37 = .ok (.goto 4, 3) := by decide +kernel
theorem dX9_taps_40 : decode cX9_taps 40 = .ok (.iconst 0, 1) := by decide +kernel
theorem dX9_taps_41 : decode cX9_taps 41 = .ok (.iadd, 1) := by decide +kernel
theorem dX9_taps_42 : decode cX9_taps 42 = .ok (.istore_n 2, 1) := by decide +kernel
theorem dX9_taps_43 : decode cX9_taps 43 = .ok (.iinc 3 1, 3) := by decide +kernel
theorem dX9_taps_46 : decode cX9_taps 46 = .ok (.goto (-42), 3) := by decide +kernel
theorem dX9_taps_49 : decode cX9_taps 49 = .ok (.iload_n 2, 1) := by decide +kernel
theorem dX9_taps_50 : decode cX9_taps 50 = .ok (.ireturn, 1) := by decide +kernel
theorem dX9_count_0 : decode cX9_count 0 = .ok (.iload_n 1, 1) := by decide +kernel
theorem dX9_count_1 : decode cX9_count 1 = .ok (.tableswitch 175 0 21 #[103, 109, 117, 123, 129, 135, 141, 149, 154, 175, 175, 175, 175, 175, 175, 175, 175, 175, 175, 175, 159, 167], 103) := by decide +kernel
theorem dX9_count_104 : decode cX9_count 104 = .ok (.aload_n 0, 1) := by decide +kernel
theorem dX9_count_105 : decode cX9_count 105 = .ok (.iconst 0, 1) := by decide +kernel
theorem dX9_count_106 : decode cX9_count 106 = .ok (.invokevirtual 33, 3) := by decide +kernel
theorem dX9_count_109 : decode cX9_count 109 = .ok (.ireturn, 1) := by decide +kernel
theorem dX9_count_110 : decode cX9_count 110 = .ok (.aload_n 0, 1) := by decide +kernel
theorem dX9_count_111 : decode cX9_count 111 = .ok (.getfield 7, 3) := by decide +kernel
theorem dX9_count_114 : decode cX9_count 114 = .ok (.bipush 64, 2) := by decide +kernel
theorem dX9_count_116 : decode cX9_count 116 = .ok (.iaload, 1) := by decide +kernel
theorem dX9_count_117 : decode cX9_count 117 = .ok (.ireturn, 1) := by decide +kernel
theorem dX9_count_118 : decode cX9_count 118 = .ok (.aload_n 0, 1) := by decide +kernel
theorem dX9_count_119 : decode cX9_count 119 = .ok (.iconst 0, 1) := by decide +kernel
theorem dX9_count_120 : decode cX9_count 120 = .ok (.invokevirtual 104, 3) := by decide +kernel
theorem dX9_count_123 : decode cX9_count 123 = .ok (.ireturn, 1) := by decide +kernel
theorem dX9_count_124 : decode cX9_count 124 = .ok (.aload_n 0, 1) := by decide +kernel
theorem dX9_count_125 : decode cX9_count 125 = .ok (.iconst 1, 1) := by decide +kernel
theorem dX9_count_126 : decode cX9_count 126 = .ok (.invokevirtual 104, 3) := by decide +kernel
theorem dX9_count_129 : decode cX9_count 129 = .ok (.ireturn, 1) := by decide +kernel
theorem dX9_count_130 : decode cX9_count 130 = .ok (.aload_n 0, 1) := by decide +kernel
theorem dX9_count_131 : decode cX9_count 131 = .ok (.iconst 1, 1) := by decide +kernel
theorem dX9_count_132 : decode cX9_count 132 = .ok (.invokevirtual 108, 3) := by decide +kernel
theorem dX9_count_135 : decode cX9_count 135 = .ok (.ireturn, 1) := by decide +kernel
theorem dX9_count_136 : decode cX9_count 136 = .ok (.aload_n 0, 1) := by decide +kernel
theorem dX9_count_137 : decode cX9_count 137 = .ok (.iconst 0, 1) := by decide +kernel
theorem dX9_count_138 : decode cX9_count 138 = .ok (.invokevirtual 108, 3) := by decide +kernel
theorem dX9_count_141 : decode cX9_count 141 = .ok (.ireturn, 1) := by decide +kernel
theorem dX9_count_142 : decode cX9_count 142 = .ok (.aload_n 0, 1) := by decide +kernel
theorem dX9_count_143 : decode cX9_count 143 = .ok (.getfield 7, 3) := by decide +kernel
theorem dX9_count_146 : decode cX9_count 146 = .ok (.bipush 98, 2) := by decide +kernel
theorem dX9_count_148 : decode cX9_count 148 = .ok (.iaload, 1) := by decide +kernel
theorem dX9_count_149 : decode cX9_count 149 = .ok (.ireturn, 1) := by decide +kernel
theorem dX9_count_150 : decode cX9_count 150 = .ok (.aload_n 0, 1) := by decide +kernel
theorem dX9_count_151 : decode cX9_count 151 = .ok (.getfield 29, 3) := by decide +kernel
theorem dX9_count_154 : decode cX9_count 154 = .ok (.ireturn, 1) := by decide +kernel
theorem dX9_count_155 : decode cX9_count 155 = .ok (.aload_n 0, 1) := by decide +kernel
theorem dX9_count_156 : decode cX9_count 156 = .ok (.getfield 111, 3) := by decide +kernel
theorem dX9_count_159 : decode cX9_count 159 = .ok (.ireturn, 1) := by decide +kernel
theorem dX9_count_160 : decode cX9_count 160 = .ok (.aload_n 0, 1) := by decide +kernel
theorem dX9_count_161 : decode cX9_count 161 = .ok (.getfield 7, 3) := by decide +kernel
theorem dX9_count_164 : decode cX9_count 164 = .ok (.bipush 79, 2) := by decide +kernel
theorem dX9_count_166 : decode cX9_count 166 = .ok (.iaload, 1) := by decide +kernel
theorem dX9_count_167 : decode cX9_count 167 = .ok (.ireturn, 1) := by decide +kernel
theorem dX9_count_168 : decode cX9_count 168 = .ok (.aload_n 0, 1) := by decide +kernel
theorem dX9_count_169 : decode cX9_count 169 = .ok (.getfield 7, 3) := by decide +kernel
theorem dX9_count_172 : decode cX9_count 172 = .ok (.bipush 80, 2) := by decide +kernel
theorem dX9_count_174 : decode cX9_count 174 = .ok (.iaload, 1) := by decide +kernel
theorem dX9_count_175 : decode cX9_count 175 = .ok (.ireturn, 1) := by decide +kernel
theorem dX9_count_176 : decode cX9_count 176 = .ok (.ldc 28, 2) := by decide +kernel
theorem dX9_count_178 : decode cX9_count 178 = .ok (.ireturn, 1) := by decide +kernel
theorem dX9_undo_0 : decode cX9_undo 0 = .ok (.aload_n 0, 1) := by decide +kernel
theorem dX9_undo_1 : decode cX9_undo 1 = .ok (.getfield 29, 3) := by decide +kernel
theorem dX9_undo_4 : decode cX9_undo 4 = .ok (.ifCond .ne 6, 3) := by decide +kernel
theorem dX9_undo_7 : decode cX9_undo 7 = .ok (.ldc 62, 2) := by decide +kernel
theorem dX9_undo_9 : decode cX9_undo 9 = .ok (.ireturn, 1) := by decide +kernel
theorem dX9_undo_10 : decode cX9_undo 10 = .ok (.aload_n 0, 1) := by decide +kernel
theorem dX9_undo_11 : decode cX9_undo 11 = .ok (.aload_n 0, 1) := by decide +kernel
theorem dX9_undo_12 : decode cX9_undo 12 = .ok (.getfield 29, 3) := by decide +kernel
theorem dX9_undo_15 : decode cX9_undo 15 = .ok (.iconst 0, 1) := by decide +kernel
theorem dX9_undo_16 : decode cX9_undo 16 = .ok (.invokevirtual 24, 3) := by decide +kernel
theorem dX9_undo_19 : decode cX9_undo 19 = .ok (.aload_n 0, 1) := by decide +kernel
theorem dX9_undo_20 : decode cX9_undo 20 = .ok (.dup, 1) := by decide +kernel
theorem dX9_undo_21 : decode cX9_undo 21 = .ok (.getfield 29, 3) := by decide +kernel
theorem dX9_undo_24 : decode cX9_undo 24 = .ok (.iconst 1, 1) := by decide +kernel
theorem dX9_undo_25 : decode cX9_undo 25 = .ok (.isub, 1) := by decide +kernel
theorem dX9_undo_26 : decode cX9_undo 26 = .ok (.putfield 29, 3) := by decide +kernel
theorem dX9_undo_29 : decode cX9_undo 29 = .ok (.aload_n 0, 1) := by decide +kernel
theorem dX9_undo_30 : decode cX9_undo 30 = .ok (.getfield 29, 3) := by decide +kernel
theorem dX9_undo_33 : decode cX9_undo 33 = .ok (.ireturn, 1) := by decide +kernel
theorem dX9_type_0 : decode cX9_type 0 = .ok (.iload_n 1, 1) := by decide +kernel
theorem dX9_type_1 : decode cX9_type 1 = .ok (.bipush 32, 2) := by decide +kernel
theorem dX9_type_3 : decode cX9_type 3 = .ok (.bipush 126, 2) := by decide +kernel
theorem dX9_type_5 : decode cX9_type 5 = .ok (.invokestatic 54, 3) := by decide +kernel
theorem dX9_type_8 : decode cX9_type 8 = .ok (.ifCond .ne 6, 3) := by decide +kernel
theorem dX9_type_11 : decode cX9_type 11 = .ok (.ldc 28, 2) := by decide +kernel
theorem dX9_type_13 : decode cX9_type 13 = .ok (.ireturn, 1) := by decide +kernel
theorem dX9_type_14 : decode cX9_type 14 = .ok (.aload_n 0, 1) := by decide +kernel
theorem dX9_type_15 : decode cX9_type 15 = .ok (.getfield 111, 3) := by decide +kernel
theorem dX9_type_18 : decode cX9_type 18 = .ok (.bipush 60, 2) := by decide +kernel
theorem dX9_type_20 : decode cX9_type 20 = .ok (.if_icmp .ne 6, 3) := by decide +kernel
theorem dX9_type_23 : decode cX9_type 23 = .ok (.ldc 61, 2) := by decide +kernel
theorem dX9_type_25 : decode cX9_type 25 = .ok (.ireturn, 1) := by decide +kernel
theorem dX9_type_26 : decode cX9_type 26 = .ok (.aload_n 0, 1) := by decide +kernel
theorem dX9_type_27 : decode cX9_type 27 = .ok (.getfield 17, 3) := by decide +kernel
theorem dX9_type_30 : decode cX9_type 30 = .ok (.aload_n 0, 1) := by decide +kernel
theorem dX9_type_31 : decode cX9_type 31 = .ok (.getfield 111, 3) := by decide +kernel
theorem dX9_type_34 : decode cX9_type 34 = .ok (.iload_n 1, 1) := by decide +kernel
theorem dX9_type_35 : decode cX9_type 35 = .ok (.i2c, 1) := by decide +kernel
theorem dX9_type_36 : decode cX9_type 36 = .ok (.castore, 1) := by decide +kernel
theorem dX9_type_37 : decode cX9_type 37 = .ok (.aload_n 0, 1) := by decide +kernel
theorem dX9_type_38 : decode cX9_type 38 = .ok (.dup, 1) := by decide +kernel
theorem dX9_type_39 : decode cX9_type 39 = .ok (.getfield 111, 3) := by decide +kernel
theorem dX9_type_42 : decode cX9_type 42 = .ok (.iconst 1, 1) := by decide +kernel
theorem dX9_type_43 : decode cX9_type 43 = .ok (.iadd, 1) := by decide +kernel
theorem dX9_type_44 : decode cX9_type 44 = .ok (.putfield 111, 3) := by decide +kernel
theorem dX9_type_47 : decode cX9_type 47 = .ok (.aload_n 0, 1) := by decide +kernel
theorem dX9_type_48 : decode cX9_type 48 = .ok (.getfield 111, 3) := by decide +kernel
theorem dX9_type_51 : decode cX9_type 51 = .ok (.ireturn, 1) := by decide +kernel
theorem dX9_clearText_0 : decode cX9_clearText 0 = .ok (.aload_n 0, 1) := by decide +kernel
theorem dX9_clearText_1 : decode cX9_clearText 1 = .ok (.getfield 111, 3) := by decide +kernel
theorem dX9_clearText_4 : decode cX9_clearText 4 = .ok (.istore_n 1, 1) := by decide +kernel
theorem dX9_clearText_5 : decode cX9_clearText 5 = .ok (.aload_n 0, 1) := by decide +kernel
theorem dX9_clearText_6 : decode cX9_clearText 6 = .ok (.iconst 0, 1) := by decide +kernel
theorem dX9_clearText_7 : decode cX9_clearText 7 = .ok (.putfield 111, 3) := by decide +kernel
theorem dX9_clearText_10 : decode cX9_clearText 10 = .ok (.iload_n 1, 1) := by decide +kernel
theorem dX9_clearText_11 : decode cX9_clearText 11 = .ok (.ireturn, 1) := by decide +kernel
theorem dX9_sign_0 : decode cX9_sign 0 = .ok (.aload_n 0, 1) := by decide +kernel
theorem dX9_sign_1 : decode cX9_sign 1 = .ok (.getfield 114, 3) := by decide +kernel
theorem dX9_sign_4 : decode cX9_sign 4 = .ok (.aload_n 0, 1) := by decide +kernel
theorem dX9_sign_5 : decode cX9_sign 5 = .ok (.getfield 111, 3) := by decide +kernel
theorem dX9_sign_8 : decode cX9_sign 8 = .ok (.if_icmp .ge 15, 3) := by decide +kernel
theorem dX9_sign_11 : decode cX9_sign 11 = .ok (.aload_n 0, 1) := by decide +kernel
theorem dX9_sign_12 : decode cX9_sign 12 = .ok (.getfield 17, 3) := by decide +kernel
theorem dX9_sign_15 : decode cX9_sign 15 = .ok (.aload_n 0, 1) := by decide +kernel
theorem dX9_sign_16 : decode cX9_sign 16 = .ok (.getfield 114, 3) := by decide +kernel
theorem dX9_sign_19 : decode cX9_sign 19 = .ok (.caload, 1) := by decide +kernel
theorem dX9_sign_20 : decode cX9_sign 20 = .ok (.goto 4, 3) := by decide +kernel
theorem dX9_sign_23 : decode cX9_sign 23 = .ok (.iconst 0, 1) := by decide +kernel
theorem dX9_sign_24 : decode cX9_sign 24 = .ok (.ireturn, 1) := by decide +kernel
theorem dX9_number_0 : decode cX9_number 0 = .ok (.iload_n 2, 1) := by decide +kernel
theorem dX9_number_1 : decode cX9_number 1 = .ok (.ifCond .eq 16, 3) := by decide +kernel
theorem dX9_number_4 : decode cX9_number 4 = .ok (.aload_n 0, 1) := by decide +kernel
theorem dX9_number_5 : decode cX9_number 5 = .ok (.invokevirtual 117, 3) := by decide +kernel
theorem dX9_number_8 : decode cX9_number 8 = .ok (.bipush 45, 2) := by decide +kernel
theorem dX9_number_10 : decode cX9_number 10 = .ok (.if_icmp .ne 7, 3) := by decide +kernel
theorem dX9_number_13 : decode cX9_number 13 = .ok (.iconst 1, 1) := by decide +kernel
theorem dX9_number_14 : decode cX9_number 14 = .ok (.goto 4, 3) := by decide +kernel
theorem dX9_number_17 : decode cX9_number 17 = .ok (.iconst 0, 1) := by decide +kernel
theorem dX9_number_18 : decode cX9_number 18 = .ok (.istore_n 3, 1) := by decide +kernel
theorem dX9_number_19 : decode cX9_number 19 = .ok (.aload_n 0, 1) := by decide +kernel
theorem dX9_number_20 : decode cX9_number 20 = .ok (.dup, 1) := by decide +kernel
theorem dX9_number_21 : decode cX9_number 21 = .ok (.getfield 114, 3) := by decide +kernel
theorem dX9_number_24 : decode cX9_number 24 = .ok (.iload_n 3, 1) := by decide +kernel
theorem dX9_number_25 : decode cX9_number 25 = .ok (.ifCond .eq 7, 3) := by decide +kernel
theorem dX9_number_28 : decode cX9_number 28 = .ok (.iconst 1, 1) := by decide +kernel
theorem dX9_number_29 : decode cX9_number 29 = .ok (.goto 4, 3) := by decide +kernel
theorem dX9_number_32 : decode cX9_number 32 = .ok (.iconst 0, 1) := by decide +kernel
theorem dX9_number_33 : decode cX9_number 33 = .ok (.iadd, 1) := by decide +kernel
theorem dX9_number_34 : decode cX9_number 34 = .ok (.putfield 114, 3) := by decide +kernel
theorem dX9_number_37 : decode cX9_number 37 = .ok (.aload_n 0, 1) := by decide +kernel
theorem dX9_number_38 : decode cX9_number 38 = .ok (.getfield 114, 3) := by decide +kernel
theorem dX9_number_41 : decode cX9_number 41 = .ok (.istore 4, 2) := by decide +kernel
theorem dX9_number_43 : decode cX9_number 43 = .ok (.iconst 0, 1) := by decide +kernel
theorem dX9_number_44 : decode cX9_number 44 = .ok (.istore 5, 2) := by decide +kernel
theorem dX9_number_46 : decode cX9_number 46 = .ok (.aload_n 0, 1) := by decide +kernel
theorem dX9_number_47 : decode cX9_number 47 = .ok (.getfield 114, 3) := by decide +kernel
theorem dX9_number_50 : decode cX9_number 50 = .ok (.iload 4, 2) := by decide +kernel
theorem dX9_number_52 : decode cX9_number 52 = .ok (.iconst 5, 1) := by decide +kernel
theorem dX9_number_53 : decode cX9_number 53 = .ok (.iadd, 1) := by decide +kernel
theorem dX9_number_54 : decode cX9_number 54 = .ok (.if_icmp .ge 45, 3) := by decide +kernel
theorem dX9_number_57 : decode cX9_number 57 = .ok (.aload_n 0, 1) := by decide +kernel
theorem dX9_number_58 : decode cX9_number 58 = .ok (.invokevirtual 117, 3) := by decide +kernel
theorem dX9_number_61 : decode cX9_number 61 = .ok (.bipush 48, 2) := by decide +kernel
theorem dX9_number_63 : decode cX9_number 63 = .ok (.bipush 57, 2) := by decide +kernel
theorem dX9_number_65 : decode cX9_number 65 = .ok (.invokestatic 54, 3) := by decide +kernel
theorem dX9_number_68 : decode cX9_number 68 = .ok (.ifCond .eq 31, 3) := by decide +kernel
theorem dX9_number_71 : decode cX9_number 71 = .ok (.bipush 10, 2) := by decide +kernel
theorem dX9_number_73 : decode cX9_number 73 = .ok (.iload 5, 2) := by decide +kernel
theorem dX9_number_75 : decode cX9_number 75 = .ok (.imul, 1) := by decide +kernel
theorem dX9_number_76 : decode cX9_number 76 = .ok (.aload_n 0, 1) := by decide +kernel
theorem dX9_number_77 : decode cX9_number 77 = .ok (.invokevirtual 117, 3) := by decide +kernel
theorem dX9_number_80 : decode cX9_number 80 = .ok (.iadd, 1) := by decide +kernel
theorem dX9_number_81 : decode cX9_number 81 = .ok (.bipush 48, 2) := by decide +kernel
theorem dX9_number_83 : decode cX9_number 83 = .ok (.isub, 1) := by decide +kernel
theorem dX9_number_84 : decode cX9_number 84 = .ok (.istore 5, 2) := by decide +kernel
theorem dX9_number_86 : decode cX9_number 86 = .ok (.aload_n 0, 1) := by decide +kernel
theorem dX9_number_87 : decode cX9_number 87 = .ok (.dup, 1) := by decide +kernel
theorem dX9_number_88 : decode cX9_number 88 = .ok (.getfield 114, 3) := by decide +kernel
theorem dX9_number_91 : decode cX9_number 91 = .ok (.iconst 1, 1) := by decide +kernel
theorem dX9_number_92 : decode cX9_number 92 = .ok (.iadd, 1) := by decide +kernel
theorem dX9_number_93 : decode cX9_number 93 = .ok (.putfield 114, 3) := by decide +kernel
theorem dX9_number_96 : decode cX9_number 96 = .ok (.goto (-50), 3) := by decide +kernel
theorem dX9_number_99 : decode cX9_number 99 = .ok (.aload_n 0, 1) := by decide +kernel
theorem dX9_number_100 : decode cX9_number 100 = .ok (.getfield 21, 3) := by decide +kernel
theorem dX9_number_103 : decode cX9_number 103 = .ok (.iload_n 1, 1) := by decide +kernel
theorem dX9_number_104 : decode cX9_number 104 = .ok (.iload_n 3, 1) := by decide +kernel
theorem dX9_number_105 : decode cX9_number 105 = .ok (.ifCond .eq 9, 3) := by decide +kernel
theorem dX9_number_108 : decode cX9_number 108 = .ok (.iload 5, 2) := by decide +kernel
theorem dX9_number_110 : decode cX9_number 110 = .ok (.ineg, 1) := by decide +kernel
theorem dX9_number_111 : decode cX9_number 111 = .ok (.goto 5, 3) := by decide +kernel
theorem dX9_number_114 : decode cX9_number 114 = .ok (.iload 5, 2) := by decide +kernel
theorem dX9_number_116 : decode cX9_number 116 = .ok (.iastore, 1) := by decide +kernel
theorem dX9_number_117 : decode cX9_number 117 = .ok (.aload_n 0, 1) := by decide +kernel
theorem dX9_number_118 : decode cX9_number 118 = .ok (.getfield 114, 3) := by decide +kernel
theorem dX9_number_121 : decode cX9_number 121 = .ok (.iload 4, 2) := by decide +kernel
theorem dX9_number_123 : decode cX9_number 123 = .ok (.if_icmp .le 7, 3) := by decide +kernel
theorem dX9_number_126 : decode cX9_number 126 = .ok (.iconst 1, 1) := by decide +kernel
theorem dX9_number_127 : decode cX9_number 127 = .ok (.goto 4, 3) := by decide +kernel
theorem dX9_number_130 : decode cX9_number 130 = .ok (.iconst 0, 1) := by decide +kernel
theorem dX9_number_131 : decode cX9_number 131 = .ok (.ireturn, 1) := by decide +kernel
theorem dX9_takes_0 : decode cX9_takes 0 = .ok (.aload_n 0, 1) := by decide +kernel
theorem dX9_takes_1 : decode cX9_takes 1 = .ok (.invokevirtual 117, 3) := by decide +kernel
theorem dX9_takes_4 : decode cX9_takes 4 = .ok (.iload_n 1, 1) := by decide +kernel
theorem dX9_takes_5 : decode cX9_takes 5 = .ok (.if_icmp .eq 5, 3) := by decide +kernel
theorem dX9_takes_8 : decode cX9_takes 8 = .ok (.iconst 0, 1) := by decide +kernel
theorem dX9_takes_9 : decode cX9_takes 9 = .ok (.ireturn, 1) := by decide +kernel
theorem dX9_takes_10 : decode cX9_takes 10 = .ok (.aload_n 0, 1) := by decide +kernel
theorem dX9_takes_11 : decode cX9_takes 11 = .ok (.dup, 1) := by decide +kernel
theorem dX9_takes_12 : decode cX9_takes 12 = .ok (.getfield 114, 3) := by decide +kernel
theorem dX9_takes_15 : decode cX9_takes 15 = .ok (.iconst 1, 1) := by decide +kernel
theorem dX9_takes_16 : decode cX9_takes 16 = .ok (.iadd, 1) := by decide +kernel
theorem dX9_takes_17 : decode cX9_takes 17 = .ok (.putfield 114, 3) := by decide +kernel
theorem dX9_takes_20 : decode cX9_takes 20 = .ok (.iconst 1, 1) := by decide +kernel
theorem dX9_takes_21 : decode cX9_takes 21 = .ok (.ireturn, 1) := by decide +kernel
theorem dX9_order_0 : decode cX9_order 0 = .ok (.iload_n 1, 1) := by decide +kernel
theorem dX9_order_1 : decode cX9_order 1 = .ok (.bipush 115, 2) := by decide +kernel
theorem dX9_order_3 : decode cX9_order 3 = .ok (.if_icmp .eq 33, 3) := by decide +kernel
theorem dX9_order_6 : decode cX9_order 6 = .ok (.iload_n 1, 1) := by decide +kernel
theorem dX9_order_7 : decode cX9_order 7 = .ok (.bipush 122, 2) := by decide +kernel
theorem dX9_order_9 : decode cX9_order 9 = .ok (.if_icmp .eq 27, 3) := by decide +kernel
theorem dX9_order_12 : decode cX9_order 12 = .ok (.iload_n 1, 1) := by decide +kernel
theorem dX9_order_13 : decode cX9_order 13 = .ok (.bipush 116, 2) := by decide +kernel
theorem dX9_order_15 : decode cX9_order 15 = .ok (.if_icmp .eq 21, 3) := by decide +kernel
theorem dX9_order_18 : decode cX9_order 18 = .ok (.iload_n 1, 1) := by decide +kernel
theorem dX9_order_19 : decode cX9_order 19 = .ok (.bipush 102, 2) := by decide +kernel
theorem dX9_order_21 : decode cX9_order 21 = .ok (.if_icmp .eq 15, 3) := by decide +kernel
theorem dX9_order_24 : decode cX9_order 24 = .ok (.iload_n 1, 1) := by decide +kernel
theorem dX9_order_25 : decode cX9_order 25 = .ok (.bipush 107, 2) := by decide +kernel
theorem dX9_order_27 : decode cX9_order 27 = .ok (.if_icmp .eq 9, 3) := by decide +kernel
theorem dX9_order_30 : decode cX9_order 30 = .ok (.iload_n 1, 1) := by decide +kernel
theorem dX9_order_31 : decode cX9_order 31 = .ok (.bipush 103, 2) := by decide +kernel
theorem dX9_order_33 : decode cX9_order 33 = .ok (.if_icmp .ne 7, 3) := by decide +kernel
theorem dX9_order_36 : decode cX9_order 36 = .ok (.iconst 1, 1) := by decide +kernel
theorem dX9_order_37 : decode cX9_order 37 = .ok (.goto 4, 3) := by decide +kernel
theorem dX9_order_40 : decode cX9_order 40 = .ok (.iconst 0, 1) := by decide +kernel
theorem dX9_order_41 : decode cX9_order 41 = .ok (.istore_n 2, 1) := by decide +kernel
theorem dX9_order_42 : decode cX9_order 42 = .ok (.iload_n 2, 1) := by decide +kernel
theorem dX9_order_43 : decode cX9_order 43 = .ok (.ifCond .ne 5, 3) := by decide +kernel
theorem dX9_order_46 : decode cX9_order 46 = .ok (.iconst 0, 1) := by decide +kernel
theorem dX9_order_47 : decode cX9_order 47 = .ok (.ireturn, 1) := by decide +kernel
theorem dX9_order_48 : decode cX9_order 48 = .ok (.aload_n 0, 1) := by decide +kernel
theorem dX9_order_49 : decode cX9_order 49 = .ok (.dup, 1) := by decide +kernel
theorem dX9_order_50 : decode cX9_order 50 = .ok (.getfield 114, 3) := by decide +kernel
theorem dX9_order_53 : decode cX9_order 53 = .ok (.iconst 1, 1) := by decide +kernel
theorem dX9_order_54 : decode cX9_order 54 = .ok (.iadd, 1) := by decide +kernel
theorem dX9_order_55 : decode cX9_order 55 = .ok (.putfield 114, 3) := by decide +kernel
theorem dX9_order_58 : decode cX9_order 58 = .ok (.aload_n 0, 1) := by decide +kernel
theorem dX9_order_59 : decode cX9_order 59 = .ok (.iconst 0, 1) := by decide +kernel
theorem dX9_order_60 : decode cX9_order 60 = .ok (.iload_n 1, 1) := by decide +kernel
theorem dX9_order_61 : decode cX9_order 61 = .ok (.bipush 115, 2) := by decide +kernel
theorem dX9_order_63 : decode cX9_order 63 = .ok (.if_icmp .ne 7, 3) := by decide +kernel
theorem dX9_order_66 : decode cX9_order 66 = .ok (.iconst 1, 1) := by decide +kernel
theorem dX9_order_67 : decode cX9_order 67 = .ok (.goto 4, 3) := by decide +kernel
theorem dX9_order_70 : decode cX9_order 70 = .ok (.iconst 0, 1) := by decide +kernel
theorem dX9_order_71 : decode cX9_order 71 = .ok (.invokevirtual 121, 3) := by decide +kernel
theorem dX9_order_74 : decode cX9_order 74 = .ok (.istore_n 2, 1) := by decide +kernel
theorem dX9_order_75 : decode cX9_order 75 = .ok (.iload_n 1, 1) := by decide +kernel
theorem dX9_order_76 : decode cX9_order 76 = .ok (.bipush 116, 2) := by decide +kernel
theorem dX9_order_78 : decode cX9_order 78 = .ok (.if_icmp .eq 9, 3) := by decide +kernel
theorem dX9_order_81 : decode cX9_order 81 = .ok (.iload_n 1, 1) := by decide +kernel
theorem dX9_order_82 : decode cX9_order 82 = .ok (.bipush 102, 2) := by decide +kernel
theorem dX9_order_84 : decode cX9_order 84 = .ok (.if_icmp .ne 31, 3) := by decide +kernel
theorem dX9_order_87 : decode cX9_order 87 = .ok (.iload_n 2, 1) := by decide +kernel
theorem dX9_order_88 : decode cX9_order 88 = .ok (.ifCond .eq 25, 3) := by decide +kernel
theorem dX9_order_91 : decode cX9_order 91 = .ok (.aload_n 0, 1) := by decide +kernel
theorem dX9_order_92 : decode cX9_order 92 = .ok (.bipush 44, 2) := by decide +kernel
theorem dX9_order_94 : decode cX9_order 94 = .ok (.invokevirtual 125, 3) := by decide +kernel
theorem dX9_order_97 : decode cX9_order 97 = .ok (.ifCond .eq 16, 3) := by decide +kernel
theorem dX9_order_100 : decode cX9_order 100 = .ok (.aload_n 0, 1) := by decide +kernel
theorem dX9_order_101 : decode cX9_order 101 = .ok (.iconst 1, 1) := by decide +kernel
theorem dX9_order_102 : decode cX9_order 102 = .ok (.iconst 0, 1) := by decide +kernel
theorem dX9_order_103 : decode cX9_order 103 = .ok (.invokevirtual 121, 3) := by decide +kernel
theorem dX9_order_106 : decode cX9_order 106 = .ok (.ifCond .eq 7, 3) := by decide +kernel
theorem dX9_order_109 : decode cX9_order 109 = .ok (.iconst 1, 1) := by decide +kernel
theorem dX9_order_110 : decode cX9_order 110 = .ok (.goto 4, 3) := by decide +kernel
theorem dX9_order_113 : decode cX9_order 113 = .ok (.iconst 0, 1) := by decide +kernel
theorem dX9_order_114 : decode cX9_order 114 = .ok (.istore_n 2, 1) := by decide +kernel
theorem dX9_order_115 : decode cX9_order 115 = .ok (.iload_n 1, 1) := by decide +kernel
theorem dX9_order_116 : decode cX9_order 116 = .ok (.bipush 116, 2) := by decide +kernel
theorem dX9_order_118 : decode cX9_order 118 = .ok (.if_icmp .ne 31, 3) := by decide +kernel
theorem dX9_order_121 : decode cX9_order 121 = .ok (.iload_n 2, 1) := by decide +kernel
theorem dX9_order_122 : decode cX9_order 122 = .ok (.ifCond .eq 25, 3) := by decide +kernel
theorem dX9_order_125 : decode cX9_order 125 = .ok (.aload_n 0, 1) := by decide +kernel
theorem dX9_order_126 : decode cX9_order 126 = .ok (.bipush 44, 2) := by decide +kernel
theorem dX9_order_128 : decode cX9_order 128 = .ok (.invokevirtual 125, 3) := by decide +kernel
theorem dX9_order_131 : decode cX9_order 131 = .ok (.ifCond .eq 16, 3) := by decide +kernel
theorem dX9_order_134 : decode cX9_order 134 = .ok (.aload_n 0, 1) := by decide +kernel
theorem dX9_order_135 : decode cX9_order 135 = .ok (.iconst 2, 1) := by decide +kernel
theorem dX9_order_136 : decode cX9_order 136 = .ok (.iconst 1, 1) := by decide +kernel
theorem dX9_order_137 : decode cX9_order 137 = .ok (.invokevirtual 121, 3) := by decide +kernel
theorem dX9_order_140 : decode cX9_order 140 = .ok (.ifCond .eq 7, 3) := by decide +kernel
theorem dX9_order_143 : decode cX9_order 143 = .ok (.iconst 1, 1) := by decide +kernel
theorem dX9_order_144 : decode cX9_order 144 = .ok (.goto 4, 3) := by decide +kernel
theorem dX9_order_147 : decode cX9_order 147 = .ok (.iconst 0, 1) := by decide +kernel
theorem dX9_order_148 : decode cX9_order 148 = .ok (.istore_n 2, 1) := by decide +kernel
theorem dX9_order_149 : decode cX9_order 149 = .ok (.iload_n 2, 1) := by decide +kernel
theorem dX9_order_150 : decode cX9_order 150 = .ok (.ifCond .eq 16, 3) := by decide +kernel
theorem dX9_order_153 : decode cX9_order 153 = .ok (.aload_n 0, 1) := by decide +kernel
theorem dX9_order_154 : decode cX9_order 154 = .ok (.bipush 59, 2) := by decide +kernel
theorem dX9_order_156 : decode cX9_order 156 = .ok (.invokevirtual 125, 3) := by decide +kernel
theorem dX9_order_159 : decode cX9_order 159 = .ok (.ifCond .eq 7, 3) := by decide +kernel
theorem dX9_order_162 : decode cX9_order 162 = .ok (.iconst 1, 1) := by decide +kernel
theorem dX9_order_163 : decode cX9_order 163 = .ok (.goto 4, 3) := by decide +kernel
theorem dX9_order_166 : decode cX9_order 166 = .ok (.iconst 0, 1) := by decide +kernel
theorem dX9_order_167 : decode cX9_order 167 = .ok (.ireturn, 1) := by decide +kernel
theorem dX9_does_0 : decode cX9_does 0 = .ok (.iload_n 1, 1) := by decide +kernel
theorem dX9_does_1 : decode cX9_does 1 = .ok (.lookupswitch 124 #[(102, 96), (107, 113), (115, 51), (116, 73), (122, 62)], 51) := by decide +kernel
theorem dX9_does_52 : decode cX9_does 52 = .ok (.aload_n 0, 1) := by decide +kernel
theorem dX9_does_53 : decode cX9_does 53 = .ok (.aload_n 0, 1) := by decide +kernel
theorem dX9_does_54 : decode cX9_does 54 = .ok (.getfield 21, 3) := by decide +kernel
theorem dX9_does_57 : decode cX9_does 57 = .ok (.iconst 0, 1) := by decide +kernel
theorem dX9_does_58 : decode cX9_does 58 = .ok (.iaload, 1) := by decide +kernel
theorem dX9_does_59 : decode cX9_does 59 = .ok (.invokevirtual 66, 3) := by decide +kernel
theorem dX9_does_62 : decode cX9_does 62 = .ok (.ireturn, 1) := by decide +kernel
theorem dX9_does_63 : decode cX9_does 63 = .ok (.aload_n 0, 1) := by decide +kernel
theorem dX9_does_64 : decode cX9_does 64 = .ok (.aload_n 0, 1) := by decide +kernel
theorem dX9_does_65 : decode cX9_does 65 = .ok (.getfield 21, 3) := by decide +kernel
theorem dX9_does_68 : decode cX9_does 68 = .ok (.iconst 0, 1) := by decide +kernel
theorem dX9_does_69 : decode cX9_does 69 = .ok (.iaload, 1) := by decide +kernel
theorem dX9_does_70 : decode cX9_does 70 = .ok (.invokevirtual 72, 3) := by decide +kernel
theorem dX9_does_73 : decode cX9_does 73 = .ok (.ireturn, 1) := by decide +kernel
theorem dX9_does_74 : decode cX9_does 74 = .ok (.aload_n 0, 1) := by decide +kernel
theorem dX9_does_75 : decode cX9_does 75 = .ok (.aload_n 0, 1) := by decide +kernel
theorem dX9_does_76 : decode cX9_does 76 = .ok (.getfield 21, 3) := by decide +kernel
theorem dX9_does_79 : decode cX9_does 79 = .ok (.iconst 0, 1) := by decide +kernel
theorem dX9_does_80 : decode cX9_does 80 = .ok (.iaload, 1) := by decide +kernel
theorem dX9_does_81 : decode cX9_does 81 = .ok (.aload_n 0, 1) := by decide +kernel
theorem dX9_does_82 : decode cX9_does 82 = .ok (.getfield 21, 3) := by decide +kernel
theorem dX9_does_85 : decode cX9_does 85 = .ok (.iconst 1, 1) := by decide +kernel
theorem dX9_does_86 : decode cX9_does 86 = .ok (.iaload, 1) := by decide +kernel
theorem dX9_does_87 : decode cX9_does 87 = .ok (.aload_n 0, 1) := by decide +kernel
theorem dX9_does_88 : decode cX9_does 88 = .ok (.getfield 21, 3) := by decide +kernel
theorem dX9_does_91 : decode cX9_does 91 = .ok (.iconst 2, 1) := by decide +kernel
theorem dX9_does_92 : decode cX9_does 92 = .ok (.iaload, 1) := by decide +kernel
theorem dX9_does_93 : decode cX9_does 93 = .ok (.invokevirtual 75, 3) := by decide +kernel
theorem dX9_does_96 : decode cX9_does 96 = .ok (.ireturn, 1) := by decide +kernel
theorem dX9_does_97 : decode cX9_does 97 = .ok (.aload_n 0, 1) := by decide +kernel
theorem dX9_does_98 : decode cX9_does 98 = .ok (.aload_n 0, 1) := by decide +kernel
theorem dX9_does_99 : decode cX9_does 99 = .ok (.getfield 21, 3) := by decide +kernel
theorem dX9_does_102 : decode cX9_does 102 = .ok (.iconst 0, 1) := by decide +kernel
theorem dX9_does_103 : decode cX9_does 103 = .ok (.iaload, 1) := by decide +kernel
theorem dX9_does_104 : decode cX9_does 104 = .ok (.aload_n 0, 1) := by decide +kernel
theorem dX9_does_105 : decode cX9_does 105 = .ok (.getfield 21, 3) := by decide +kernel
theorem dX9_does_108 : decode cX9_does 108 = .ok (.iconst 1, 1) := by decide +kernel
theorem dX9_does_109 : decode cX9_does 109 = .ok (.iaload, 1) := by decide +kernel
theorem dX9_does_110 : decode cX9_does 110 = .ok (.invokevirtual 79, 3) := by decide +kernel
theorem dX9_does_113 : decode cX9_does 113 = .ok (.ireturn, 1) := by decide +kernel
theorem dX9_does_114 : decode cX9_does 114 = .ok (.aload_n 0, 1) := by decide +kernel
theorem dX9_does_115 : decode cX9_does 115 = .ok (.aload_n 0, 1) := by decide +kernel
theorem dX9_does_116 : decode cX9_does 116 = .ok (.getfield 21, 3) := by decide +kernel
theorem dX9_does_119 : decode cX9_does 119 = .ok (.iconst 0, 1) := by decide +kernel
theorem dX9_does_120 : decode cX9_does 120 = .ok (.iaload, 1) := by decide +kernel
theorem dX9_does_121 : decode cX9_does 121 = .ok (.invokevirtual 82, 3) := by decide +kernel
theorem dX9_does_124 : decode cX9_does 124 = .ok (.ireturn, 1) := by decide +kernel
theorem dX9_does_125 : decode cX9_does 125 = .ok (.aload_n 0, 1) := by decide +kernel
theorem dX9_does_126 : decode cX9_does 126 = .ok (.aload_n 0, 1) := by decide +kernel
theorem dX9_does_127 : decode cX9_does 127 = .ok (.getfield 21, 3) := by decide +kernel
theorem dX9_does_130 : decode cX9_does 130 = .ok (.iconst 0, 1) := by decide +kernel
theorem dX9_does_131 : decode cX9_does 131 = .ok (.iaload, 1) := by decide +kernel
theorem dX9_does_132 : decode cX9_does 132 = .ok (.invokevirtual 85, 3) := by decide +kernel
theorem dX9_does_135 : decode cX9_does 135 = .ok (.ireturn, 1) := by decide +kernel
theorem dX9_goesOn_0 : decode cX9_goesOn 0 = .ok (.aload_n 0, 1) := by decide +kernel
theorem dX9_goesOn_1 : decode cX9_goesOn 1 = .ok (.iconst 0, 1) := by decide +kernel
theorem dX9_goesOn_2 : decode cX9_goesOn 2 = .ok (.putfield 114, 3) := by decide +kernel
theorem dX9_goesOn_5 : decode cX9_goesOn 5 = .ok (.iconst 0, 1) := by decide +kernel
theorem dX9_goesOn_6 : decode cX9_goesOn 6 = .ok (.istore_n 1, 1) := by decide +kernel
theorem dX9_goesOn_7 : decode cX9_goesOn 7 = .ok (.aload_n 0, 1) := by decide +kernel
theorem dX9_goesOn_8 : decode cX9_goesOn 8 = .ok (.getfield 114, 3) := by decide +kernel
theorem dX9_goesOn_11 : decode cX9_goesOn 11 = .ok (.aload_n 0, 1) := by decide +kernel
theorem dX9_goesOn_12 : decode cX9_goesOn 12 = .ok (.getfield 111, 3) := by decide +kernel
theorem dX9_goesOn_15 : decode cX9_goesOn 15 = .ok (.if_icmp .ge 77, 3) := by decide +kernel
theorem dX9_goesOn_18 : decode cX9_goesOn 18 = .ok (.aload_n 0, 1) := by decide +kernel
theorem dX9_goesOn_19 : decode cX9_goesOn 19 = .ok (.getfield 114, 3) := by decide +kernel
theorem dX9_goesOn_22 : decode cX9_goesOn 22 = .ok (.istore_n 2, 1) := by decide +kernel
theorem dX9_goesOn_23 : decode cX9_goesOn 23 = .ok (.aload_n 0, 1) := by decide +kernel
theorem dX9_goesOn_24 : decode cX9_goesOn 24 = .ok (.invokevirtual 117, 3) := by decide +kernel
theorem dX9_goesOn_27 : decode cX9_goesOn 27 = .ok (.istore_n 3, 1) := by decide +kernel
theorem dX9_goesOn_28 : decode cX9_goesOn 28 = .ok (.aload_n 0, 1) := by decide +kernel
theorem dX9_goesOn_29 : decode cX9_goesOn 29 = .ok (.iload_n 3, 1) := by decide +kernel
theorem dX9_goesOn_30 : decode cX9_goesOn 30 = .ok (.invokevirtual 129, 3) := by decide +kernel
theorem dX9_goesOn_33 : decode cX9_goesOn 33 = .ok (.ifCond .ne 23, 3) := by decide +kernel
theorem dX9_goesOn_36 : decode cX9_goesOn 36 = .ok (.aload_n 0, 1) := by decide +kernel
theorem dX9_goesOn_37 : decode cX9_goesOn 37 = .ok (.iconst 1, 1) := by decide +kernel
theorem dX9_goesOn_38 : decode cX9_goesOn 38 = .ok (.putfield 132, 3) := by decide +kernel
theorem dX9_goesOn_41 : decode cX9_goesOn 41 = .ok (.aload_n 0, 1) := by decide +kernel
theorem dX9_goesOn_42 : decode cX9_goesOn 42 = .ok (.aload_n 0, 1) := by decide +kernel
theorem dX9_goesOn_43 : decode cX9_goesOn 43 = .ok (.getfield 114, 3) := by decide +kernel
theorem dX9_goesOn_46 : decode cX9_goesOn 46 = .ok (.iload_n 2, 1) := by decide +kernel
theorem dX9_goesOn_47 : decode cX9_goesOn 47 = .ok (.isub, 1) := by decide +kernel
theorem dX9_goesOn_48 : decode cX9_goesOn 48 = .ok (.putfield 135, 3) := by decide +kernel
theorem dX9_goesOn_51 : decode cX9_goesOn 51 = .ok (.iload_n 2, 1) := by decide +kernel
theorem dX9_goesOn_52 : decode cX9_goesOn 52 = .ok (.ineg, 1) := by decide +kernel
theorem dX9_goesOn_53 : decode cX9_goesOn 53 = .ok (.iconst 1, 1) := by decide +kernel
theorem dX9_goesOn_54 : decode cX9_goesOn 54 = .ok (.isub, 1) := by decide +kernel
theorem dX9_goesOn_55 : decode cX9_goesOn 55 = .ok (.ireturn, 1) := by decide +kernel
theorem dX9_goesOn_56 : decode cX9_goesOn 56 = .ok (.aload_n 0, 1) := by decide +kernel
theorem dX9_goesOn_57 : decode cX9_goesOn 57 = .ok (.iload_n 3, 1) := by decide +kernel
theorem dX9_goesOn_58 : decode cX9_goesOn 58 = .ok (.invokevirtual 138, 3) := by decide +kernel
theorem dX9_goesOn_61 : decode cX9_goesOn 61 = .ok (.istore 4, 2) := by decide +kernel
theorem dX9_goesOn_63 : decode cX9_goesOn 63 = .ok (.iload 4, 2) := by decide +kernel
theorem dX9_goesOn_65 : decode cX9_goesOn 65 = .ok (.ldc 28, 2) := by decide +kernel
theorem dX9_goesOn_67 : decode cX9_goesOn 67 = .ok (.if_icmp .gt 19, 3) := by decide +kernel
theorem dX9_goesOn_70 : decode cX9_goesOn 70 = .ok (.aload_n 0, 1) := by decide +kernel
theorem dX9_goesOn_71 : decode cX9_goesOn 71 = .ok (.iconst 2, 1) := by decide +kernel
theorem dX9_goesOn_72 : decode cX9_goesOn 72 = .ok (.putfield 132, 3) := by decide +kernel
theorem dX9_goesOn_75 : decode cX9_goesOn 75 = .ok (.aload_n 0, 1) := by decide +kernel
theorem dX9_goesOn_76 : decode cX9_goesOn 76 = .ok (.iload 4, 2) := by decide +kernel
theorem dX9_goesOn_78 : decode cX9_goesOn 78 = .ok (.putfield 135, 3) := by decide +kernel
theorem dX9_goesOn_81 : decode cX9_goesOn 81 = .ok (.iload_n 2, 1) := by decide +kernel
theorem dX9_goesOn_82 : decode cX9_goesOn 82 = .ok (.ineg, 1) := by decide +kernel
theorem dX9_goesOn_83 : decode cX9_goesOn 83 = .ok (.iconst 1, 1) := by decide +kernel
theorem dX9_goesOn_84 : decode cX9_goesOn 84 = .ok (.isub, 1) := by decide +kernel
theorem dX9_goesOn_85 : decode cX9_goesOn 85 = .ok (.ireturn, 1) := by decide +kernel
theorem dX9_goesOn_86 : decode cX9_goesOn 86 = .ok (.iinc 1 1, 3) := by decide +kernel
theorem dX9_goesOn_89 : decode cX9_goesOn 89 = .ok (.goto (-82), 3) := by decide +kernel
theorem dX9_goesOn_92 : decode cX9_goesOn 92 = .ok (.iload_n 1, 1) := by decide +kernel
theorem dX9_goesOn_93 : decode cX9_goesOn 93 = .ok (.ireturn, 1) := by decide +kernel
theorem dX9_fault_0 : decode cX9_fault 0 = .ok (.iload_n 1, 1) := by decide +kernel
theorem dX9_fault_1 : decode cX9_fault 1 = .ok (.iconst 0, 1) := by decide +kernel
theorem dX9_fault_2 : decode cX9_fault 2 = .ok (.iconst 2, 1) := by decide +kernel
theorem dX9_fault_3 : decode cX9_fault 3 = .ok (.invokestatic 54, 3) := by decide +kernel
theorem dX9_fault_6 : decode cX9_fault 6 = .ok (.ifCond .ne 6, 3) := by decide +kernel
theorem dX9_fault_9 : decode cX9_fault 9 = .ok (.ldc 28, 2) := by decide +kernel
theorem dX9_fault_11 : decode cX9_fault 11 = .ok (.ireturn, 1) := by decide +kernel
theorem dX9_fault_12 : decode cX9_fault 12 = .ok (.aload_n 0, 1) := by decide +kernel
theorem dX9_fault_13 : decode cX9_fault 13 = .ok (.invokevirtual 63, 3) := by decide +kernel
theorem dX9_fault_16 : decode cX9_fault 16 = .ok (.aload_n 0, 1) := by decide +kernel
theorem dX9_fault_17 : decode cX9_fault 17 = .ok (.invokevirtual 141, 3) := by decide +kernel
theorem dX9_fault_20 : decode cX9_fault 20 = .ok (.istore_n 2, 1) := by decide +kernel
theorem dX9_fault_21 : decode cX9_fault 21 = .ok (.aload_n 0, 1) := by decide +kernel
theorem dX9_fault_22 : decode cX9_fault 22 = .ok (.bipush 6, 2) := by decide +kernel
theorem dX9_fault_24 : decode cX9_fault 24 = .ok (.iconst 0, 1) := by decide +kernel
theorem dX9_fault_25 : decode cX9_fault 25 = .ok (.invokevirtual 24, 3) := by decide +kernel
theorem dX9_fault_28 : decode cX9_fault 28 = .ok (.iload_n 2, 1) := by decide +kernel
theorem dX9_fault_29 : decode cX9_fault 29 = .ok (.ifCond .lt 8, 3) := by decide +kernel
theorem dX9_fault_32 : decode cX9_fault 32 = .ok (.ldc 88, 2) := by decide +kernel
theorem dX9_fault_34 : decode cX9_fault 34 = .ok (.goto 30, 3) := by decide +kernel
theorem dX9_fault_37 : decode cX9_fault 37 = .ok (.iload_n 1, 1) := by decide +kernel
theorem dX9_fault_38 : decode cX9_fault 38 = .ok (.ifCond .ne 10, 3) := by decide +kernel
theorem dX9_fault_41 : decode cX9_fault 41 = .ok (.iload_n 2, 1) := by decide +kernel
theorem dX9_fault_42 : decode cX9_fault 42 = .ok (.ineg, 1) := by decide +kernel
theorem dX9_fault_43 : decode cX9_fault 43 = .ok (.iconst 1, 1) := by decide +kernel
theorem dX9_fault_44 : decode cX9_fault 44 = .ok (.isub, 1) := by decide +kernel
theorem dX9_fault_45 : decode cX9_fault 45 = .ok (.goto 19, 3) := by decide +kernel
theorem dX9_fault_48 : decode cX9_fault 48 = .ok (.iload_n 1, 1) := by decide +kernel
theorem dX9_fault_49 : decode cX9_fault 49 = .ok (.iconst 1, 1) := by decide +kernel
theorem dX9_fault_50 : decode cX9_fault 50 = .ok (.if_icmp .ne 10, 3) := by decide +kernel
theorem dX9_fault_53 : decode cX9_fault 53 = .ok (.aload_n 0, 1) := by decide +kernel
theorem dX9_fault_54 : decode cX9_fault 54 = .ok (.getfield 132, 3) := by decide +kernel
theorem dX9_fault_57 : decode cX9_fault 57 = .ok (.goto 7, 3) := by decide +kernel
theorem dX9_fault_60 : decode cX9_fault 60 = .ok (.aload_n 0, 1) := by decide +kernel
theorem dX9_fault_61 : decode cX9_fault 61 = .ok (.getfield 135, 3) := by decide +kernel
theorem dX9_fault_64 : decode cX9_fault 64 = .ok (.ireturn, 1) := by decide +kernel
theorem dX9_play_0 : decode cX9_play 0 = .ok (.aload_n 0, 1) := by decide +kernel
theorem dX9_play_1 : decode cX9_play 1 = .ok (.invokevirtual 63, 3) := by decide +kernel
theorem dX9_play_4 : decode cX9_play 4 = .ok (.aload_n 0, 1) := by decide +kernel
theorem dX9_play_5 : decode cX9_play 5 = .ok (.invokevirtual 141, 3) := by decide +kernel
theorem dX9_play_8 : decode cX9_play 8 = .ok (.istore_n 1, 1) := by decide +kernel
theorem dX9_play_9 : decode cX9_play 9 = .ok (.iload_n 1, 1) := by decide +kernel
theorem dX9_play_10 : decode cX9_play 10 = .ok (.ifCond .ge 13, 3) := by decide +kernel
theorem dX9_play_13 : decode cX9_play 13 = .ok (.aload_n 0, 1) := by decide +kernel
theorem dX9_play_14 : decode cX9_play 14 = .ok (.bipush 6, 2) := by decide +kernel
theorem dX9_play_16 : decode cX9_play 16 = .ok (.iconst 0, 1) := by decide +kernel
theorem dX9_play_17 : decode cX9_play 17 = .ok (.invokevirtual 24, 3) := by decide +kernel
theorem dX9_play_20 : decode cX9_play 20 = .ok (.ldc 62, 2) := by decide +kernel
theorem dX9_play_22 : decode cX9_play 22 = .ok (.ireturn, 1) := by decide +kernel
theorem dX9_play_23 : decode cX9_play 23 = .ok (.aload_n 0, 1) := by decide +kernel
theorem dX9_play_24 : decode cX9_play 24 = .ok (.iload_n 1, 1) := by decide +kernel
theorem dX9_play_25 : decode cX9_play 25 = .ok (.invokevirtual 69, 3) := by decide +kernel
theorem dX9_play_28 : decode cX9_play 28 = .ok (.ireturn, 1) := by decide +kernel
theorem dJxf58ca_isNaN_12338_0 : decode cJxf58ca_isNaN_12338 0 = .ok (.fload_n 0, 1) := by decide +kernel
theorem dJxf58ca_isNaN_12338_1 : decode cJxf58ca_isNaN_12338 1 = .ok (.fload_n 0, 1) := by decide +kernel
theorem dJxf58ca_isNaN_12338_2 : decode cJxf58ca_isNaN_12338 2 = .ok (.fcmp .l, 1) := by decide +kernel
theorem dJxf58ca_isNaN_12338_3 : decode cJxf58ca_isNaN_12338 3 = .ok (.ifCond .eq 7, 3) := by decide +kernel
theorem dJxf58ca_isNaN_12338_6 : decode cJxf58ca_isNaN_12338 6 = .ok (.iconst 1, 1) := by decide +kernel
theorem dJxf58ca_isNaN_12338_7 : decode cJxf58ca_isNaN_12338 7 = .ok (.goto 4, 3) := by decide +kernel
theorem dJxf58ca_isNaN_12338_10 : decode cJxf58ca_isNaN_12338 10 = .ok (.iconst 0, 1) := by decide +kernel
theorem dJxf58ca_isNaN_12338_11 : decode cJxf58ca_isNaN_12338 11 = .ok (.ireturn, 1) := by decide +kernel
theorem dJxf58ca_floatToIntBits_5c35a_0 : decode cJxf58ca_floatToIntBits_5c35a 0 = .ok (.fload_n 0, 1) := by decide +kernel
theorem dJxf58ca_floatToIntBits_5c35a_1 : decode cJxf58ca_floatToIntBits_5c35a 1 = .ok (.invokestatic 59, 3) := by decide +kernel
theorem dJxf58ca_floatToIntBits_5c35a_4 : decode cJxf58ca_floatToIntBits_5c35a 4 = .ok (.ifCond .ne 8, 3) := by decide +kernel
theorem dJxf58ca_floatToIntBits_5c35a_7 : decode cJxf58ca_floatToIntBits_5c35a 7 = .ok (.fload_n 0, 1) := by decide +kernel
theorem dJxf58ca_floatToIntBits_5c35a_8 : decode cJxf58ca_floatToIntBits_5c35a 8 = .ok (.invokestatic 74, 3) := by decide +kernel
theorem dJxf58ca_floatToIntBits_5c35a_11 : decode cJxf58ca_floatToIntBits_5c35a 11 = .ok (.ireturn, 1) := by decide +kernel
theorem dJxf58ca_floatToIntBits_5c35a_12 : decode cJxf58ca_floatToIntBits_5c35a 12 = .ok (.ldc 77, 2) := by decide +kernel
theorem dJxf58ca_floatToIntBits_5c35a_14 : decode cJxf58ca_floatToIntBits_5c35a 14 = .ok (.ireturn, 1) := by decide +kernel
theorem dJ9_floorMod_7cf53_0 : decode cJ9_floorMod_7cf53 0 = .ok (.iload_n 0, 1) := by decide +kernel
theorem dJ9_floorMod_7cf53_1 : decode cJ9_floorMod_7cf53 1 = .ok (.iload_n 1, 1) := by decide +kernel
theorem dJ9_floorMod_7cf53_2 : decode cJ9_floorMod_7cf53 2 = .ok (.irem, 1) := by decide +kernel
theorem dJ9_floorMod_7cf53_3 : decode cJ9_floorMod_7cf53 3 = .ok (.istore_n 2, 1) := by decide +kernel
theorem dJ9_floorMod_7cf53_4 : decode cJ9_floorMod_7cf53 4 = .ok (.iload_n 0, 1) := by decide +kernel
theorem dJ9_floorMod_7cf53_5 : decode cJ9_floorMod_7cf53 5 = .ok (.iload_n 1, 1) := by decide +kernel
theorem dJ9_floorMod_7cf53_6 : decode cJ9_floorMod_7cf53 6 = .ok (.ixor, 1) := by decide +kernel
theorem dJ9_floorMod_7cf53_7 : decode cJ9_floorMod_7cf53 7 = .ok (.ifCond .ge 11, 3) := by decide +kernel
theorem dJ9_floorMod_7cf53_10 : decode cJ9_floorMod_7cf53 10 = .ok (.iload_n 2, 1) := by decide +kernel
theorem dJ9_floorMod_7cf53_11 : decode cJ9_floorMod_7cf53 11 = .ok (.ifCond .eq 7, 3) := by decide +kernel
theorem dJ9_floorMod_7cf53_14 : decode cJ9_floorMod_7cf53 14 = .ok (.iload_n 2, 1) := by decide +kernel
theorem dJ9_floorMod_7cf53_15 : decode cJ9_floorMod_7cf53 15 = .ok (.iload_n 1, 1) := by decide +kernel
theorem dJ9_floorMod_7cf53_16 : decode cJ9_floorMod_7cf53 16 = .ok (.iadd, 1) := by decide +kernel
theorem dJ9_floorMod_7cf53_17 : decode cJ9_floorMod_7cf53 17 = .ok (.ireturn, 1) := by decide +kernel
theorem dJ9_floorMod_7cf53_18 : decode cJ9_floorMod_7cf53 18 = .ok (.iload_n 2, 1) := by decide +kernel
theorem dJ9_floorMod_7cf53_19 : decode cJ9_floorMod_7cf53 19 = .ok (.ireturn, 1) := by decide +kernel
theorem dJ9_abs_0f7a4_0 : decode cJ9_abs_0f7a4 0 = .ok (.iload_n 0, 1) := by decide +kernel
theorem dJ9_abs_0f7a4_1 : decode cJ9_abs_0f7a4 1 = .ok (.ifCond .ge 8, 3) := by decide +kernel
theorem dJ9_abs_0f7a4_4 : decode cJ9_abs_0f7a4 4 = .ok (.iload_n 0, 1) := by decide +kernel
theorem dJ9_abs_0f7a4_5 : decode cJ9_abs_0f7a4 5 = .ok (.ineg, 1) := by decide +kernel
theorem dJ9_abs_0f7a4_6 : decode cJ9_abs_0f7a4 6 = .ok (.goto 4, 3) := by decide +kernel
theorem dJ9_abs_0f7a4_9 : decode cJ9_abs_0f7a4 9 = .ok (.iload_n 0, 1) := by decide +kernel
theorem dJ9_abs_0f7a4_10 : decode cJ9_abs_0f7a4 10 = .ok (.ireturn, 1) := by decide +kernel
theorem dJ9_max_7cf53_0 : decode cJ9_max_7cf53 0 = .ok (.iload_n 0, 1) := by decide +kernel
theorem dJ9_max_7cf53_1 : decode cJ9_max_7cf53 1 = .ok (.iload_n 1, 1) := by decide +kernel
theorem dJ9_max_7cf53_2 : decode cJ9_max_7cf53 2 = .ok (.if_icmp .lt 7, 3) := by decide +kernel
theorem dJ9_max_7cf53_5 : decode cJ9_max_7cf53 5 = .ok (.iload_n 0, 1) := by decide +kernel
theorem dJ9_max_7cf53_6 : decode cJ9_max_7cf53 6 = .ok (.goto 4, 3) := by decide +kernel
theorem dJ9_max_7cf53_9 : decode cJ9_max_7cf53 9 = .ok (.iload_n 1, 1) := by decide +kernel
theorem dJ9_max_7cf53_10 : decode cJ9_max_7cf53 10 = .ok (.ireturn, 1) := by decide +kernel
theorem dJ9_min_7cf53_0 : decode cJ9_min_7cf53 0 = .ok (.iload_n 0, 1) := by decide +kernel
theorem dJ9_min_7cf53_1 : decode cJ9_min_7cf53 1 = .ok (.iload_n 1, 1) := by decide +kernel
theorem dJ9_min_7cf53_2 : decode cJ9_min_7cf53 2 = .ok (.if_icmp .gt 7, 3) := by decide +kernel
theorem dJ9_min_7cf53_5 : decode cJ9_min_7cf53 5 = .ok (.iload_n 0, 1) := by decide +kernel
theorem dJ9_min_7cf53_6 : decode cJ9_min_7cf53 6 = .ok (.goto 4, 3) := by decide +kernel
theorem dJ9_min_7cf53_9 : decode cJ9_min_7cf53 9 = .ok (.iload_n 1, 1) := by decide +kernel
theorem dJ9_min_7cf53_10 : decode cJ9_min_7cf53 10 = .ok (.ireturn, 1) := by decide +kernel
theorem dJ7_fill_53178_0 : decode cJ7_fill_53178 0 = .ok (.iconst 0, 1) := by decide +kernel
theorem dJ7_fill_53178_1 : decode cJ7_fill_53178 1 = .ok (.istore_n 2, 1) := by decide +kernel
theorem dJ7_fill_53178_2 : decode cJ7_fill_53178 2 = .ok (.aload_n 0, 1) := by decide +kernel
theorem dJ7_fill_53178_3 : decode cJ7_fill_53178 3 = .ok (.arraylength, 1) := by decide +kernel
theorem dJ7_fill_53178_4 : decode cJ7_fill_53178 4 = .ok (.istore_n 3, 1) := by decide +kernel
theorem dJ7_fill_53178_5 : decode cJ7_fill_53178 5 = .ok (.iload_n 2, 1) := by decide +kernel
theorem dJ7_fill_53178_6 : decode cJ7_fill_53178 6 = .ok (.iload_n 3, 1) := by decide +kernel
theorem dJ7_fill_53178_7 : decode cJ7_fill_53178 7 = .ok (.if_icmp .ge 13, 3) := by decide +kernel
theorem dJ7_fill_53178_10 : decode cJ7_fill_53178 10 = .ok (.aload_n 0, 1) := by decide +kernel
theorem dJ7_fill_53178_11 : decode cJ7_fill_53178 11 = .ok (.iload_n 2, 1) := by decide +kernel
theorem dJ7_fill_53178_12 : decode cJ7_fill_53178 12 = .ok (.iload_n 1, 1) := by decide +kernel
theorem dJ7_fill_53178_13 : decode cJ7_fill_53178 13 = .ok (.iastore, 1) := by decide +kernel
theorem dJ7_fill_53178_14 : decode cJ7_fill_53178 14 = .ok (.iinc 2 1, 3) := by decide +kernel
theorem dJ7_fill_53178_17 : decode cJ7_fill_53178 17 = .ok (.goto (-12), 3) := by decide +kernel
theorem dJ7_fill_53178_20 : decode cJ7_fill_53178 20 = .ok (.return_, 1) := by decide +kernel
theorem dL_law_0 : decode cL_law 0 = .ok (.new 7, 3) := by decide +kernel
theorem dL_law_3 : decode cL_law 3 = .ok (.dup, 1) := by decide +kernel
theorem dL_law_4 : decode cL_law 4 = .ok (.invokespecial 9, 3) := by decide +kernel
theorem dL_law_7 : decode cL_law 7 = .ok (.astore_n 1, 1) := by decide +kernel
theorem dL_law_8 : decode cL_law 8 = .ok (.new 10, 3) := by decide +kernel
theorem dL_law_11 : decode cL_law 11 = .ok (.dup, 1) := by decide +kernel
theorem dL_law_12 : decode cL_law 12 = .ok (.invokespecial 12, 3) := by decide +kernel
theorem dL_law_15 : decode cL_law 15 = .ok (.astore_n 2, 1) := by decide +kernel
theorem dL_law_16 : decode cL_law 16 = .ok (.iconst 0, 1) := by decide +kernel
theorem dL_law_17 : decode cL_law 17 = .ok (.istore_n 3, 1) := by decide +kernel
theorem dL_law_18 : decode cL_law 18 = .ok (.iload_n 3, 1) := by decide +kernel
theorem dL_law_19 : decode cL_law 19 = .ok (.aload_n 0, 1) := by decide +kernel
theorem dL_law_20 : decode cL_law 20 = .ok (.arraylength, 1) := by decide +kernel
theorem dL_law_21 : decode cL_law 21 = .ok (.iconst 4, 1) := by decide +kernel
theorem dL_law_22 : decode cL_law 22 = .ok (.isub, 1) := by decide +kernel
theorem dL_law_23 : decode cL_law 23 = .ok (.if_icmp .gt 672, 3) := by decide +kernel
theorem dL_law_26 : decode cL_law 26 = .ok (.aload_n 0, 1) := by decide +kernel
theorem dL_law_27 : decode cL_law 27 = .ok (.iload_n 3, 1) := by decide +kernel
theorem dL_law_28 : decode cL_law 28 = .ok (.iaload, 1) := by decide +kernel
theorem dL_law_29 : decode cL_law 29 = .ok (.bipush 31, 2) := by decide +kernel
theorem dL_law_31 : decode cL_law 31 = .ok (.iand, 1) := by decide +kernel
theorem dL_law_32 : decode cL_law 32 = .ok (.tableswitch 657 0 22 #[108, 131, 154, 197, 220, 253, 276, 299, 332, 345, 378, 401, 424, 447, 480, 503, 516, 549, 572, 585, 608, 621, 644], 108) := by decide +kernel
theorem dL_law_140 : decode cL_law 140 = .ok (.aload_n 1, 1) := by decide +kernel
theorem dL_law_141 : decode cL_law 141 = .ok (.aload_n 0, 1) := by decide +kernel
theorem dL_law_142 : decode cL_law 142 = .ok (.iload_n 3, 1) := by decide +kernel
theorem dL_law_143 : decode cL_law 143 = .ok (.iconst 1, 1) := by decide +kernel
theorem dL_law_144 : decode cL_law 144 = .ok (.iadd, 1) := by decide +kernel
theorem dL_law_145 : decode cL_law 145 = .ok (.iaload, 1) := by decide +kernel
theorem dL_law_146 : decode cL_law 146 = .ok (.invokevirtual 13, 3) := by decide +kernel
theorem dL_law_149 : decode cL_law 149 = .ok (.aload_n 2, 1) := by decide +kernel
theorem dL_law_150 : decode cL_law 150 = .ok (.aload_n 0, 1) := by decide +kernel
theorem dL_law_151 : decode cL_law 151 = .ok (.iload_n 3, 1) := by decide +kernel
theorem dL_law_152 : decode cL_law 152 = .ok (.iconst 1, 1) := by decide +kernel
theorem dL_law_153 : decode cL_law 153 = .ok (.iadd, 1) := by decide +kernel
theorem dL_law_154 : decode cL_law 154 = .ok (.iaload, 1) := by decide +kernel
theorem dL_law_155 : decode cL_law 155 = .ok (.invokevirtual 17, 3) := by decide +kernel
theorem dL_law_158 : decode cL_law 158 = .ok (.if_icmp .eq 531, 3) := by decide +kernel
theorem dL_law_161 : decode cL_law 161 = .ok (.iconst 0, 1) := by decide +kernel
theorem dL_law_162 : decode cL_law 162 = .ok (.ireturn, 1) := by decide +kernel
theorem dL_law_163 : decode cL_law 163 = .ok (.aload_n 1, 1) := by decide +kernel
theorem dL_law_164 : decode cL_law 164 = .ok (.aload_n 0, 1) := by decide +kernel
theorem dL_law_165 : decode cL_law 165 = .ok (.iload_n 3, 1) := by decide +kernel
theorem dL_law_166 : decode cL_law 166 = .ok (.iconst 1, 1) := by decide +kernel
theorem dL_law_167 : decode cL_law 167 = .ok (.iadd, 1) := by decide +kernel
theorem dL_law_168 : decode cL_law 168 = .ok (.iaload, 1) := by decide +kernel
theorem dL_law_169 : decode cL_law 169 = .ok (.invokevirtual 18, 3) := by decide +kernel
theorem dL_law_172 : decode cL_law 172 = .ok (.aload_n 2, 1) := by decide +kernel
theorem dL_law_173 : decode cL_law 173 = .ok (.aload_n 0, 1) := by decide +kernel
theorem dL_law_174 : decode cL_law 174 = .ok (.iload_n 3, 1) := by decide +kernel
theorem dL_law_175 : decode cL_law 175 = .ok (.iconst 1, 1) := by decide +kernel
theorem dL_law_176 : decode cL_law 176 = .ok (.iadd, 1) := by decide +kernel
theorem dL_law_177 : decode cL_law 177 = .ok (.iaload, 1) := by decide +kernel
theorem dL_law_178 : decode cL_law 178 = .ok (.invokevirtual 21, 3) := by decide +kernel
theorem dL_law_181 : decode cL_law 181 = .ok (.if_icmp .eq 508, 3) := by decide +kernel
theorem dL_law_184 : decode cL_law 184 = .ok (.iconst 0, 1) := by decide +kernel
theorem dL_law_185 : decode cL_law 185 = .ok (.ireturn, 1) := by decide +kernel
theorem dL_law_186 : decode cL_law 186 = .ok (.aload_n 1, 1) := by decide +kernel
theorem dL_law_187 : decode cL_law 187 = .ok (.aload_n 0, 1) := by decide +kernel
theorem dL_law_188 : decode cL_law 188 = .ok (.iload_n 3, 1) := by decide +kernel
theorem dL_law_189 : decode cL_law 189 = .ok (.iconst 1, 1) := by decide +kernel
theorem dL_law_190 : decode cL_law 190 = .ok (.iadd, 1) := by decide +kernel
theorem dL_law_191 : decode cL_law 191 = .ok (.iaload, 1) := by decide +kernel
theorem dL_law_192 : decode cL_law 192 = .ok (.aload_n 0, 1) := by decide +kernel
theorem dL_law_193 : decode cL_law 193 = .ok (.iload_n 3, 1) := by decide +kernel
theorem dL_law_194 : decode cL_law 194 = .ok (.iconst 2, 1) := by decide +kernel
theorem dL_law_195 : decode cL_law 195 = .ok (.iadd, 1) := by decide +kernel
theorem dL_law_196 : decode cL_law 196 = .ok (.iaload, 1) := by decide +kernel
theorem dL_law_197 : decode cL_law 197 = .ok (.aload_n 0, 1) := by decide +kernel
theorem dL_law_198 : decode cL_law 198 = .ok (.iload_n 3, 1) := by decide +kernel
theorem dL_law_199 : decode cL_law 199 = .ok (.iconst 3, 1) := by decide +kernel
theorem dL_law_200 : decode cL_law 200 = .ok (.iadd, 1) := by decide +kernel
theorem dL_law_201 : decode cL_law 201 = .ok (.iaload, 1) := by decide +kernel
theorem dL_law_202 : decode cL_law 202 = .ok (.invokevirtual 22, 3) := by decide +kernel
theorem dL_law_205 : decode cL_law 205 = .ok (.aload_n 2, 1) := by decide +kernel
theorem dL_law_206 : decode cL_law 206 = .ok (.aload_n 0, 1) := by decide +kernel
theorem dL_law_207 : decode cL_law 207 = .ok (.iload_n 3, 1) := by decide +kernel
theorem dL_law_208 : decode cL_law 208 = .ok (.iconst 1, 1) := by decide +kernel
theorem dL_law_209 : decode cL_law 209 = .ok (.iadd, 1) := by decide +kernel
theorem dL_law_210 : decode cL_law 210 = .ok (.iaload, 1) := by decide +kernel
theorem dL_law_211 : decode cL_law 211 = .ok (.aload_n 0, 1) := by decide +kernel
theorem dL_law_212 : decode cL_law 212 = .ok (.iload_n 3, 1) := by decide +kernel
theorem dL_law_213 : decode cL_law 213 = .ok (.iconst 2, 1) := by decide +kernel
theorem dL_law_214 : decode cL_law 214 = .ok (.iadd, 1) := by decide +kernel
theorem dL_law_215 : decode cL_law 215 = .ok (.iaload, 1) := by decide +kernel
theorem dL_law_216 : decode cL_law 216 = .ok (.aload_n 0, 1) := by decide +kernel
theorem dL_law_217 : decode cL_law 217 = .ok (.iload_n 3, 1) := by decide +kernel
theorem dL_law_218 : decode cL_law 218 = .ok (.iconst 3, 1) := by decide +kernel
theorem dL_law_219 : decode cL_law 219 = .ok (.iadd, 1) := by decide +kernel
theorem dL_law_220 : decode cL_law 220 = .ok (.iaload, 1) := by decide +kernel
theorem dL_law_221 : decode cL_law 221 = .ok (.invokevirtual 26, 3) := by decide +kernel
theorem dL_law_224 : decode cL_law 224 = .ok (.if_icmp .eq 465, 3) := by decide +kernel
theorem dL_law_227 : decode cL_law 227 = .ok (.iconst 0, 1) := by decide +kernel
theorem dL_law_228 : decode cL_law 228 = .ok (.ireturn, 1) := by decide +kernel
theorem dL_law_229 : decode cL_law 229 = .ok (.aload_n 1, 1) := by decide +kernel
theorem dL_law_230 : decode cL_law 230 = .ok (.aload_n 0, 1) := by decide +kernel
theorem dL_law_231 : decode cL_law 231 = .ok (.iload_n 3, 1) := by decide +kernel
theorem dL_law_232 : decode cL_law 232 = .ok (.iconst 1, 1) := by decide +kernel
theorem dL_law_233 : decode cL_law 233 = .ok (.iadd, 1) := by decide +kernel
theorem dL_law_234 : decode cL_law 234 = .ok (.iaload, 1) := by decide +kernel
theorem dL_law_235 : decode cL_law 235 = .ok (.invokevirtual 27, 3) := by decide +kernel
theorem dL_law_238 : decode cL_law 238 = .ok (.aload_n 2, 1) := by decide +kernel
theorem dL_law_239 : decode cL_law 239 = .ok (.aload_n 0, 1) := by decide +kernel
theorem dL_law_240 : decode cL_law 240 = .ok (.iload_n 3, 1) := by decide +kernel
theorem dL_law_241 : decode cL_law 241 = .ok (.iconst 1, 1) := by decide +kernel
theorem dL_law_242 : decode cL_law 242 = .ok (.iadd, 1) := by decide +kernel
theorem dL_law_243 : decode cL_law 243 = .ok (.iaload, 1) := by decide +kernel
theorem dL_law_244 : decode cL_law 244 = .ok (.invokevirtual 30, 3) := by decide +kernel
theorem dL_law_247 : decode cL_law 247 = .ok (.if_icmp .eq 442, 3) := by decide +kernel
theorem dL_law_250 : decode cL_law 250 = .ok (.iconst 0, 1) := by decide +kernel
theorem dL_law_251 : decode cL_law 251 = .ok (.ireturn, 1) := by decide +kernel
theorem dL_law_252 : decode cL_law 252 = .ok (.aload_n 1, 1) := by decide +kernel
theorem dL_law_253 : decode cL_law 253 = .ok (.aload_n 0, 1) := by decide +kernel
theorem dL_law_254 : decode cL_law 254 = .ok (.iload_n 3, 1) := by decide +kernel
theorem dL_law_255 : decode cL_law 255 = .ok (.iconst 1, 1) := by decide +kernel
theorem dL_law_256 : decode cL_law 256 = .ok (.iadd, 1) := by decide +kernel
theorem dL_law_257 : decode cL_law 257 = .ok (.iaload, 1) := by decide +kernel
theorem dL_law_258 : decode cL_law 258 = .ok (.aload_n 0, 1) := by decide +kernel
theorem dL_law_259 : decode cL_law 259 = .ok (.iload_n 3, 1) := by decide +kernel
theorem dL_law_260 : decode cL_law 260 = .ok (.iconst 2, 1) := by decide +kernel
theorem dL_law_261 : decode cL_law 261 = .ok (.iadd, 1) := by decide +kernel
theorem dL_law_262 : decode cL_law 262 = .ok (.iaload, 1) := by decide +kernel
theorem dL_law_263 : decode cL_law 263 = .ok (.invokevirtual 31, 3) := by decide +kernel
theorem dL_law_266 : decode cL_law 266 = .ok (.aload_n 2, 1) := by decide +kernel
theorem dL_law_267 : decode cL_law 267 = .ok (.aload_n 0, 1) := by decide +kernel
theorem dL_law_268 : decode cL_law 268 = .ok (.iload_n 3, 1) := by decide +kernel
theorem dL_law_269 : decode cL_law 269 = .ok (.iconst 1, 1) := by decide +kernel
theorem dL_law_270 : decode cL_law 270 = .ok (.iadd, 1) := by decide +kernel
theorem dL_law_271 : decode cL_law 271 = .ok (.iaload, 1) := by decide +kernel
theorem dL_law_272 : decode cL_law 272 = .ok (.aload_n 0, 1) := by decide +kernel
theorem dL_law_273 : decode cL_law 273 = .ok (.iload_n 3, 1) := by decide +kernel
theorem dL_law_274 : decode cL_law 274 = .ok (.iconst 2, 1) := by decide +kernel
theorem dL_law_275 : decode cL_law 275 = .ok (.iadd, 1) := by decide +kernel
theorem dL_law_276 : decode cL_law 276 = .ok (.iaload, 1) := by decide +kernel
theorem dL_law_277 : decode cL_law 277 = .ok (.invokevirtual 35, 3) := by decide +kernel
theorem dL_law_280 : decode cL_law 280 = .ok (.if_icmp .eq 409, 3) := by decide +kernel
theorem dL_law_283 : decode cL_law 283 = .ok (.iconst 0, 1) := by decide +kernel
theorem dL_law_284 : decode cL_law 284 = .ok (.ireturn, 1) := by decide +kernel
theorem dL_law_285 : decode cL_law 285 = .ok (.aload_n 1, 1) := by decide +kernel
theorem dL_law_286 : decode cL_law 286 = .ok (.aload_n 0, 1) := by decide +kernel
theorem dL_law_287 : decode cL_law 287 = .ok (.iload_n 3, 1) := by decide +kernel
theorem dL_law_288 : decode cL_law 288 = .ok (.iconst 1, 1) := by decide +kernel
theorem dL_law_289 : decode cL_law 289 = .ok (.iadd, 1) := by decide +kernel
theorem dL_law_290 : decode cL_law 290 = .ok (.iaload, 1) := by decide +kernel
theorem dL_law_291 : decode cL_law 291 = .ok (.invokevirtual 36, 3) := by decide +kernel
theorem dL_law_294 : decode cL_law 294 = .ok (.aload_n 2, 1) := by decide +kernel
theorem dL_law_295 : decode cL_law 295 = .ok (.aload_n 0, 1) := by decide +kernel
theorem dL_law_296 : decode cL_law 296 = .ok (.iload_n 3, 1) := by decide +kernel
theorem dL_law_297 : decode cL_law 297 = .ok (.iconst 1, 1) := by decide +kernel
theorem dL_law_298 : decode cL_law 298 = .ok (.iadd, 1) := by decide +kernel
theorem dL_law_299 : decode cL_law 299 = .ok (.iaload, 1) := by decide +kernel
theorem dL_law_300 : decode cL_law 300 = .ok (.invokevirtual 39, 3) := by decide +kernel
theorem dL_law_303 : decode cL_law 303 = .ok (.if_icmp .eq 386, 3) := by decide +kernel
theorem dL_law_306 : decode cL_law 306 = .ok (.iconst 0, 1) := by decide +kernel
theorem dL_law_307 : decode cL_law 307 = .ok (.ireturn, 1) := by decide +kernel
theorem dL_law_308 : decode cL_law 308 = .ok (.aload_n 1, 1) := by decide +kernel
theorem dL_law_309 : decode cL_law 309 = .ok (.aload_n 0, 1) := by decide +kernel
theorem dL_law_310 : decode cL_law 310 = .ok (.iload_n 3, 1) := by decide +kernel
theorem dL_law_311 : decode cL_law 311 = .ok (.iconst 1, 1) := by decide +kernel
theorem dL_law_312 : decode cL_law 312 = .ok (.iadd, 1) := by decide +kernel
theorem dL_law_313 : decode cL_law 313 = .ok (.iaload, 1) := by decide +kernel
theorem dL_law_314 : decode cL_law 314 = .ok (.invokevirtual 40, 3) := by decide +kernel
theorem dL_law_317 : decode cL_law 317 = .ok (.aload_n 2, 1) := by decide +kernel
theorem dL_law_318 : decode cL_law 318 = .ok (.aload_n 0, 1) := by decide +kernel
theorem dL_law_319 : decode cL_law 319 = .ok (.iload_n 3, 1) := by decide +kernel
theorem dL_law_320 : decode cL_law 320 = .ok (.iconst 1, 1) := by decide +kernel
theorem dL_law_321 : decode cL_law 321 = .ok (.iadd, 1) := by decide +kernel
theorem dL_law_322 : decode cL_law 322 = .ok (.iaload, 1) := by decide +kernel
theorem dL_law_323 : decode cL_law 323 = .ok (.invokevirtual 43, 3) := by decide +kernel
theorem dL_law_326 : decode cL_law 326 = .ok (.if_icmp .eq 363, 3) := by decide +kernel
theorem dL_law_329 : decode cL_law 329 = .ok (.iconst 0, 1) := by decide +kernel
theorem dL_law_330 : decode cL_law 330 = .ok (.ireturn, 1) := by decide +kernel
theorem dL_law_331 : decode cL_law 331 = .ok (.aload_n 1, 1) := by decide +kernel
theorem dL_law_332 : decode cL_law 332 = .ok (.aload_n 0, 1) := by decide +kernel
theorem dL_law_333 : decode cL_law 333 = .ok (.iload_n 3, 1) := by decide +kernel
theorem dL_law_334 : decode cL_law 334 = .ok (.iconst 1, 1) := by decide +kernel
theorem dL_law_335 : decode cL_law 335 = .ok (.iadd, 1) := by decide +kernel
theorem dL_law_336 : decode cL_law 336 = .ok (.iaload, 1) := by decide +kernel
theorem dL_law_337 : decode cL_law 337 = .ok (.aload_n 0, 1) := by decide +kernel
theorem dL_law_338 : decode cL_law 338 = .ok (.iload_n 3, 1) := by decide +kernel
theorem dL_law_339 : decode cL_law 339 = .ok (.iconst 2, 1) := by decide +kernel
theorem dL_law_340 : decode cL_law 340 = .ok (.iadd, 1) := by decide +kernel
theorem dL_law_341 : decode cL_law 341 = .ok (.iaload, 1) := by decide +kernel
theorem dL_law_342 : decode cL_law 342 = .ok (.invokevirtual 44, 3) := by decide +kernel
theorem dL_law_345 : decode cL_law 345 = .ok (.aload_n 2, 1) := by decide +kernel
theorem dL_law_346 : decode cL_law 346 = .ok (.aload_n 0, 1) := by decide +kernel
theorem dL_law_347 : decode cL_law 347 = .ok (.iload_n 3, 1) := by decide +kernel
theorem dL_law_348 : decode cL_law 348 = .ok (.iconst 1, 1) := by decide +kernel
theorem dL_law_349 : decode cL_law 349 = .ok (.iadd, 1) := by decide +kernel
theorem dL_law_350 : decode cL_law 350 = .ok (.iaload, 1) := by decide +kernel
theorem dL_law_351 : decode cL_law 351 = .ok (.aload_n 0, 1) := by decide +kernel
theorem dL_law_352 : decode cL_law 352 = .ok (.iload_n 3, 1) := by decide +kernel
theorem dL_law_353 : decode cL_law 353 = .ok (.iconst 2, 1) := by decide +kernel
theorem dL_law_354 : decode cL_law 354 = .ok (.iadd, 1) := by decide +kernel
theorem dL_law_355 : decode cL_law 355 = .ok (.iaload, 1) := by decide +kernel
theorem dL_law_356 : decode cL_law 356 = .ok (.invokevirtual 47, 3) := by decide +kernel
theorem dL_law_359 : decode cL_law 359 = .ok (.if_icmp .eq 330, 3) := by decide +kernel
theorem dL_law_362 : decode cL_law 362 = .ok (.iconst 0, 1) := by decide +kernel
theorem dL_law_363 : decode cL_law 363 = .ok (.ireturn, 1) := by decide +kernel
theorem dL_law_364 : decode cL_law 364 = .ok (.aload_n 1, 1) := by decide +kernel
theorem dL_law_365 : decode cL_law 365 = .ok (.invokevirtual 48, 3) := by decide +kernel
theorem dL_law_368 : decode cL_law 368 = .ok (.aload_n 2, 1) := by decide +kernel
theorem dL_law_369 : decode cL_law 369 = .ok (.invokevirtual 52, 3) := by decide +kernel
theorem dL_law_372 : decode cL_law 372 = .ok (.if_icmp .eq 317, 3) := by decide +kernel
theorem dL_law_375 : decode cL_law 375 = .ok (.iconst 0, 1) := by decide +kernel
theorem dL_law_376 : decode cL_law 376 = .ok (.ireturn, 1) := by decide +kernel
theorem dL_law_377 : decode cL_law 377 = .ok (.aload_n 1, 1) := by decide +kernel
theorem dL_law_378 : decode cL_law 378 = .ok (.aload_n 0, 1) := by decide +kernel
theorem dL_law_379 : decode cL_law 379 = .ok (.iload_n 3, 1) := by decide +kernel
theorem dL_law_380 : decode cL_law 380 = .ok (.iconst 1, 1) := by decide +kernel
theorem dL_law_381 : decode cL_law 381 = .ok (.iadd, 1) := by decide +kernel
theorem dL_law_382 : decode cL_law 382 = .ok (.iaload, 1) := by decide +kernel
theorem dL_law_383 : decode cL_law 383 = .ok (.aload_n 0, 1) := by decide +kernel
theorem dL_law_384 : decode cL_law 384 = .ok (.iload_n 3, 1) := by decide +kernel
theorem dL_law_385 : decode cL_law 385 = .ok (.iconst 2, 1) := by decide +kernel
theorem dL_law_386 : decode cL_law 386 = .ok (.iadd, 1) := by decide +kernel
theorem dL_law_387 : decode cL_law 387 = .ok (.iaload, 1) := by decide +kernel
theorem dL_law_388 : decode cL_law 388 = .ok (.invokevirtual 53, 3) := by decide +kernel
theorem dL_law_391 : decode cL_law 391 = .ok (.aload_n 2, 1) := by decide +kernel
theorem dL_law_392 : decode cL_law 392 = .ok (.aload_n 0, 1) := by decide +kernel
theorem dL_law_393 : decode cL_law 393 = .ok (.iload_n 3, 1) := by decide +kernel
theorem dL_law_394 : decode cL_law 394 = .ok (.iconst 1, 1) := by decide +kernel
theorem dL_law_395 : decode cL_law 395 = .ok (.iadd, 1) := by decide +kernel
theorem dL_law_396 : decode cL_law 396 = .ok (.iaload, 1) := by decide +kernel
theorem dL_law_397 : decode cL_law 397 = .ok (.aload_n 0, 1) := by decide +kernel
theorem dL_law_398 : decode cL_law 398 = .ok (.iload_n 3, 1) := by decide +kernel
theorem dL_law_399 : decode cL_law 399 = .ok (.iconst 2, 1) := by decide +kernel
theorem dL_law_400 : decode cL_law 400 = .ok (.iadd, 1) := by decide +kernel
theorem dL_law_401 : decode cL_law 401 = .ok (.iaload, 1) := by decide +kernel
theorem dL_law_402 : decode cL_law 402 = .ok (.invokevirtual 56, 3) := by decide +kernel
theorem dL_law_405 : decode cL_law 405 = .ok (.if_icmp .eq 284, 3) := by decide +kernel
theorem dL_law_408 : decode cL_law 408 = .ok (.iconst 0, 1) := by decide +kernel
theorem dL_law_409 : decode cL_law 409 = .ok (.ireturn, 1) := by decide +kernel
theorem dL_law_410 : decode cL_law 410 = .ok (.aload_n 1, 1) := by decide +kernel
theorem dL_law_411 : decode cL_law 411 = .ok (.aload_n 0, 1) := by decide +kernel
theorem dL_law_412 : decode cL_law 412 = .ok (.iload_n 3, 1) := by decide +kernel
theorem dL_law_413 : decode cL_law 413 = .ok (.iconst 1, 1) := by decide +kernel
theorem dL_law_414 : decode cL_law 414 = .ok (.iadd, 1) := by decide +kernel
theorem dL_law_415 : decode cL_law 415 = .ok (.iaload, 1) := by decide +kernel
theorem dL_law_416 : decode cL_law 416 = .ok (.invokevirtual 57, 3) := by decide +kernel
theorem dL_law_419 : decode cL_law 419 = .ok (.aload_n 2, 1) := by decide +kernel
theorem dL_law_420 : decode cL_law 420 = .ok (.aload_n 0, 1) := by decide +kernel
theorem dL_law_421 : decode cL_law 421 = .ok (.iload_n 3, 1) := by decide +kernel
theorem dL_law_422 : decode cL_law 422 = .ok (.iconst 1, 1) := by decide +kernel
theorem dL_law_423 : decode cL_law 423 = .ok (.iadd, 1) := by decide +kernel
theorem dL_law_424 : decode cL_law 424 = .ok (.iaload, 1) := by decide +kernel
theorem dL_law_425 : decode cL_law 425 = .ok (.invokevirtual 60, 3) := by decide +kernel
theorem dL_law_428 : decode cL_law 428 = .ok (.if_icmp .eq 261, 3) := by decide +kernel
theorem dL_law_431 : decode cL_law 431 = .ok (.iconst 0, 1) := by decide +kernel
theorem dL_law_432 : decode cL_law 432 = .ok (.ireturn, 1) := by decide +kernel
theorem dL_law_433 : decode cL_law 433 = .ok (.aload_n 1, 1) := by decide +kernel
theorem dL_law_434 : decode cL_law 434 = .ok (.aload_n 0, 1) := by decide +kernel
theorem dL_law_435 : decode cL_law 435 = .ok (.iload_n 3, 1) := by decide +kernel
theorem dL_law_436 : decode cL_law 436 = .ok (.iconst 1, 1) := by decide +kernel
theorem dL_law_437 : decode cL_law 437 = .ok (.iadd, 1) := by decide +kernel
theorem dL_law_438 : decode cL_law 438 = .ok (.iaload, 1) := by decide +kernel
theorem dL_law_439 : decode cL_law 439 = .ok (.invokevirtual 61, 3) := by decide +kernel
theorem dL_law_442 : decode cL_law 442 = .ok (.aload_n 2, 1) := by decide +kernel
theorem dL_law_443 : decode cL_law 443 = .ok (.aload_n 0, 1) := by decide +kernel
theorem dL_law_444 : decode cL_law 444 = .ok (.iload_n 3, 1) := by decide +kernel
theorem dL_law_445 : decode cL_law 445 = .ok (.iconst 1, 1) := by decide +kernel
theorem dL_law_446 : decode cL_law 446 = .ok (.iadd, 1) := by decide +kernel
theorem dL_law_447 : decode cL_law 447 = .ok (.iaload, 1) := by decide +kernel
theorem dL_law_448 : decode cL_law 448 = .ok (.invokevirtual 64, 3) := by decide +kernel
theorem dL_law_451 : decode cL_law 451 = .ok (.if_icmp .eq 238, 3) := by decide +kernel
theorem dL_law_454 : decode cL_law 454 = .ok (.iconst 0, 1) := by decide +kernel
theorem dL_law_455 : decode cL_law 455 = .ok (.ireturn, 1) := by decide +kernel
theorem dL_law_456 : decode cL_law 456 = .ok (.aload_n 1, 1) := by decide +kernel
theorem dL_law_457 : decode cL_law 457 = .ok (.aload_n 0, 1) := by decide +kernel
theorem dL_law_458 : decode cL_law 458 = .ok (.iload_n 3, 1) := by decide +kernel
theorem dL_law_459 : decode cL_law 459 = .ok (.iconst 1, 1) := by decide +kernel
theorem dL_law_460 : decode cL_law 460 = .ok (.iadd, 1) := by decide +kernel
theorem dL_law_461 : decode cL_law 461 = .ok (.iaload, 1) := by decide +kernel
theorem dL_law_462 : decode cL_law 462 = .ok (.invokevirtual 65, 3) := by decide +kernel
theorem dL_law_465 : decode cL_law 465 = .ok (.aload_n 2, 1) := by decide +kernel
theorem dL_law_466 : decode cL_law 466 = .ok (.aload_n 0, 1) := by decide +kernel
theorem dL_law_467 : decode cL_law 467 = .ok (.iload_n 3, 1) := by decide +kernel
theorem dL_law_468 : decode cL_law 468 = .ok (.iconst 1, 1) := by decide +kernel
theorem dL_law_469 : decode cL_law 469 = .ok (.iadd, 1) := by decide +kernel
theorem dL_law_470 : decode cL_law 470 = .ok (.iaload, 1) := by decide +kernel
theorem dL_law_471 : decode cL_law 471 = .ok (.invokevirtual 68, 3) := by decide +kernel
theorem dL_law_474 : decode cL_law 474 = .ok (.if_icmp .eq 215, 3) := by decide +kernel
theorem dL_law_477 : decode cL_law 477 = .ok (.iconst 0, 1) := by decide +kernel
theorem dL_law_478 : decode cL_law 478 = .ok (.ireturn, 1) := by decide +kernel
theorem dL_law_479 : decode cL_law 479 = .ok (.aload_n 1, 1) := by decide +kernel
theorem dL_law_480 : decode cL_law 480 = .ok (.aload_n 0, 1) := by decide +kernel
theorem dL_law_481 : decode cL_law 481 = .ok (.iload_n 3, 1) := by decide +kernel
theorem dL_law_482 : decode cL_law 482 = .ok (.iconst 1, 1) := by decide +kernel
theorem dL_law_483 : decode cL_law 483 = .ok (.iadd, 1) := by decide +kernel
theorem dL_law_484 : decode cL_law 484 = .ok (.iaload, 1) := by decide +kernel
theorem dL_law_485 : decode cL_law 485 = .ok (.aload_n 0, 1) := by decide +kernel
theorem dL_law_486 : decode cL_law 486 = .ok (.iload_n 3, 1) := by decide +kernel
theorem dL_law_487 : decode cL_law 487 = .ok (.iconst 2, 1) := by decide +kernel
theorem dL_law_488 : decode cL_law 488 = .ok (.iadd, 1) := by decide +kernel
theorem dL_law_489 : decode cL_law 489 = .ok (.iaload, 1) := by decide +kernel
theorem dL_law_490 : decode cL_law 490 = .ok (.invokevirtual 69, 3) := by decide +kernel
theorem dL_law_493 : decode cL_law 493 = .ok (.aload_n 2, 1) := by decide +kernel
theorem dL_law_494 : decode cL_law 494 = .ok (.aload_n 0, 1) := by decide +kernel
theorem dL_law_495 : decode cL_law 495 = .ok (.iload_n 3, 1) := by decide +kernel
theorem dL_law_496 : decode cL_law 496 = .ok (.iconst 1, 1) := by decide +kernel
theorem dL_law_497 : decode cL_law 497 = .ok (.iadd, 1) := by decide +kernel
theorem dL_law_498 : decode cL_law 498 = .ok (.iaload, 1) := by decide +kernel
theorem dL_law_499 : decode cL_law 499 = .ok (.aload_n 0, 1) := by decide +kernel
theorem dL_law_500 : decode cL_law 500 = .ok (.iload_n 3, 1) := by decide +kernel
theorem dL_law_501 : decode cL_law 501 = .ok (.iconst 2, 1) := by decide +kernel
theorem dL_law_502 : decode cL_law 502 = .ok (.iadd, 1) := by decide +kernel
theorem dL_law_503 : decode cL_law 503 = .ok (.iaload, 1) := by decide +kernel
theorem dL_law_504 : decode cL_law 504 = .ok (.invokevirtual 72, 3) := by decide +kernel
theorem dL_law_507 : decode cL_law 507 = .ok (.if_icmp .eq 182, 3) := by decide +kernel
theorem dL_law_510 : decode cL_law 510 = .ok (.iconst 0, 1) := by decide +kernel
theorem dL_law_511 : decode cL_law 511 = .ok (.ireturn, 1) := by decide +kernel
theorem dL_law_512 : decode cL_law 512 = .ok (.aload_n 1, 1) := by decide +kernel
theorem dL_law_513 : decode cL_law 513 = .ok (.aload_n 0, 1) := by decide +kernel
theorem dL_law_514 : decode cL_law 514 = .ok (.iload_n 3, 1) := by decide +kernel
theorem dL_law_515 : decode cL_law 515 = .ok (.iconst 1, 1) := by decide +kernel
theorem dL_law_516 : decode cL_law 516 = .ok (.iadd, 1) := by decide +kernel
theorem dL_law_517 : decode cL_law 517 = .ok (.iaload, 1) := by decide +kernel
theorem dL_law_518 : decode cL_law 518 = .ok (.invokevirtual 73, 3) := by decide +kernel
theorem dL_law_521 : decode cL_law 521 = .ok (.aload_n 2, 1) := by decide +kernel
theorem dL_law_522 : decode cL_law 522 = .ok (.aload_n 0, 1) := by decide +kernel
theorem dL_law_523 : decode cL_law 523 = .ok (.iload_n 3, 1) := by decide +kernel
theorem dL_law_524 : decode cL_law 524 = .ok (.iconst 1, 1) := by decide +kernel
theorem dL_law_525 : decode cL_law 525 = .ok (.iadd, 1) := by decide +kernel
theorem dL_law_526 : decode cL_law 526 = .ok (.iaload, 1) := by decide +kernel
theorem dL_law_527 : decode cL_law 527 = .ok (.invokevirtual 76, 3) := by decide +kernel
theorem dL_law_530 : decode cL_law 530 = .ok (.if_icmp .eq 159, 3) := by decide +kernel
theorem dL_law_533 : decode cL_law 533 = .ok (.iconst 0, 1) := by decide +kernel
theorem dL_law_534 : decode cL_law 534 = .ok (.ireturn, 1) := by decide +kernel
theorem dL_law_535 : decode cL_law 535 = .ok (.aload_n 1, 1) := by decide +kernel
theorem dL_law_536 : decode cL_law 536 = .ok (.invokevirtual 77, 3) := by decide +kernel
theorem dL_law_539 : decode cL_law 539 = .ok (.aload_n 2, 1) := by decide +kernel
theorem dL_law_540 : decode cL_law 540 = .ok (.invokevirtual 80, 3) := by decide +kernel
theorem dL_law_543 : decode cL_law 543 = .ok (.if_icmp .eq 146, 3) := by decide +kernel
theorem dL_law_546 : decode cL_law 546 = .ok (.iconst 0, 1) := by decide +kernel
theorem dL_law_547 : decode cL_law 547 = .ok (.ireturn, 1) := by decide +kernel
theorem dL_law_548 : decode cL_law 548 = .ok (.aload_n 1, 1) := by decide +kernel
theorem dL_law_549 : decode cL_law 549 = .ok (.aload_n 0, 1) := by decide +kernel
theorem dL_law_550 : decode cL_law 550 = .ok (.iload_n 3, 1) := by decide +kernel
theorem dL_law_551 : decode cL_law 551 = .ok (.iconst 1, 1) := by decide +kernel
theorem dL_law_552 : decode cL_law 552 = .ok (.iadd, 1) := by decide +kernel
theorem dL_law_553 : decode cL_law 553 = .ok (.iaload, 1) := by decide +kernel
theorem dL_law_554 : decode cL_law 554 = .ok (.aload_n 0, 1) := by decide +kernel
theorem dL_law_555 : decode cL_law 555 = .ok (.iload_n 3, 1) := by decide +kernel
theorem dL_law_556 : decode cL_law 556 = .ok (.iconst 2, 1) := by decide +kernel
theorem dL_law_557 : decode cL_law 557 = .ok (.iadd, 1) := by decide +kernel
theorem dL_law_558 : decode cL_law 558 = .ok (.iaload, 1) := by decide +kernel
theorem dL_law_559 : decode cL_law 559 = .ok (.invokevirtual 81, 3) := by decide +kernel
theorem dL_law_562 : decode cL_law 562 = .ok (.aload_n 2, 1) := by decide +kernel
theorem dL_law_563 : decode cL_law 563 = .ok (.aload_n 0, 1) := by decide +kernel
theorem dL_law_564 : decode cL_law 564 = .ok (.iload_n 3, 1) := by decide +kernel
theorem dL_law_565 : decode cL_law 565 = .ok (.iconst 1, 1) := by decide +kernel
theorem dL_law_566 : decode cL_law 566 = .ok (.iadd, 1) := by decide +kernel
theorem dL_law_567 : decode cL_law 567 = .ok (.iaload, 1) := by decide +kernel
theorem dL_law_568 : decode cL_law 568 = .ok (.aload_n 0, 1) := by decide +kernel
theorem dL_law_569 : decode cL_law 569 = .ok (.iload_n 3, 1) := by decide +kernel
theorem dL_law_570 : decode cL_law 570 = .ok (.iconst 2, 1) := by decide +kernel
theorem dL_law_571 : decode cL_law 571 = .ok (.iadd, 1) := by decide +kernel
theorem dL_law_572 : decode cL_law 572 = .ok (.iaload, 1) := by decide +kernel
theorem dL_law_573 : decode cL_law 573 = .ok (.invokevirtual 84, 3) := by decide +kernel
theorem dL_law_576 : decode cL_law 576 = .ok (.if_icmp .eq 113, 3) := by decide +kernel
theorem dL_law_579 : decode cL_law 579 = .ok (.iconst 0, 1) := by decide +kernel
theorem dL_law_580 : decode cL_law 580 = .ok (.ireturn, 1) := by decide +kernel
theorem dL_law_581 : decode cL_law 581 = .ok (.aload_n 1, 1) := by decide +kernel
theorem dL_law_582 : decode cL_law 582 = .ok (.aload_n 0, 1) := by decide +kernel
theorem dL_law_583 : decode cL_law 583 = .ok (.iload_n 3, 1) := by decide +kernel
theorem dL_law_584 : decode cL_law 584 = .ok (.iconst 1, 1) := by decide +kernel
theorem dL_law_585 : decode cL_law 585 = .ok (.iadd, 1) := by decide +kernel
theorem dL_law_586 : decode cL_law 586 = .ok (.iaload, 1) := by decide +kernel
theorem dL_law_587 : decode cL_law 587 = .ok (.invokevirtual 85, 3) := by decide +kernel
theorem dL_law_590 : decode cL_law 590 = .ok (.aload_n 2, 1) := by decide +kernel
theorem dL_law_591 : decode cL_law 591 = .ok (.aload_n 0, 1) := by decide +kernel
theorem dL_law_592 : decode cL_law 592 = .ok (.iload_n 3, 1) := by decide +kernel
theorem dL_law_593 : decode cL_law 593 = .ok (.iconst 1, 1) := by decide +kernel
theorem dL_law_594 : decode cL_law 594 = .ok (.iadd, 1) := by decide +kernel
theorem dL_law_595 : decode cL_law 595 = .ok (.iaload, 1) := by decide +kernel
theorem dL_law_596 : decode cL_law 596 = .ok (.invokevirtual 88, 3) := by decide +kernel
theorem dL_law_599 : decode cL_law 599 = .ok (.if_icmp .eq 90, 3) := by decide +kernel
theorem dL_law_602 : decode cL_law 602 = .ok (.iconst 0, 1) := by decide +kernel
theorem dL_law_603 : decode cL_law 603 = .ok (.ireturn, 1) := by decide +kernel
theorem dL_law_604 : decode cL_law 604 = .ok (.aload_n 1, 1) := by decide +kernel
theorem dL_law_605 : decode cL_law 605 = .ok (.invokevirtual 89, 3) := by decide +kernel
theorem dL_law_608 : decode cL_law 608 = .ok (.aload_n 2, 1) := by decide +kernel
theorem dL_law_609 : decode cL_law 609 = .ok (.invokevirtual 92, 3) := by decide +kernel
theorem dL_law_612 : decode cL_law 612 = .ok (.if_icmp .eq 77, 3) := by decide +kernel
theorem dL_law_615 : decode cL_law 615 = .ok (.iconst 0, 1) := by decide +kernel
theorem dL_law_616 : decode cL_law 616 = .ok (.ireturn, 1) := by decide +kernel
theorem dL_law_617 : decode cL_law 617 = .ok (.aload_n 1, 1) := by decide +kernel
theorem dL_law_618 : decode cL_law 618 = .ok (.aload_n 0, 1) := by decide +kernel
theorem dL_law_619 : decode cL_law 619 = .ok (.iload_n 3, 1) := by decide +kernel
theorem dL_law_620 : decode cL_law 620 = .ok (.iconst 1, 1) := by decide +kernel
theorem dL_law_621 : decode cL_law 621 = .ok (.iadd, 1) := by decide +kernel
theorem dL_law_622 : decode cL_law 622 = .ok (.iaload, 1) := by decide +kernel
theorem dL_law_623 : decode cL_law 623 = .ok (.invokevirtual 93, 3) := by decide +kernel
theorem dL_law_626 : decode cL_law 626 = .ok (.aload_n 2, 1) := by decide +kernel
theorem dL_law_627 : decode cL_law 627 = .ok (.aload_n 0, 1) := by decide +kernel
theorem dL_law_628 : decode cL_law 628 = .ok (.iload_n 3, 1) := by decide +kernel
theorem dL_law_629 : decode cL_law 629 = .ok (.iconst 1, 1) := by decide +kernel
theorem dL_law_630 : decode cL_law 630 = .ok (.iadd, 1) := by decide +kernel
theorem dL_law_631 : decode cL_law 631 = .ok (.iaload, 1) := by decide +kernel
theorem dL_law_632 : decode cL_law 632 = .ok (.invokevirtual 96, 3) := by decide +kernel
theorem dL_law_635 : decode cL_law 635 = .ok (.if_icmp .eq 54, 3) := by decide +kernel
theorem dL_law_638 : decode cL_law 638 = .ok (.iconst 0, 1) := by decide +kernel
theorem dL_law_639 : decode cL_law 639 = .ok (.ireturn, 1) := by decide +kernel
theorem dL_law_640 : decode cL_law 640 = .ok (.aload_n 1, 1) := by decide +kernel
theorem dL_law_641 : decode cL_law 641 = .ok (.invokevirtual 97, 3) := by decide +kernel
theorem dL_law_644 : decode cL_law 644 = .ok (.aload_n 2, 1) := by decide +kernel
theorem dL_law_645 : decode cL_law 645 = .ok (.invokevirtual 100, 3) := by decide +kernel
theorem dL_law_648 : decode cL_law 648 = .ok (.if_icmp .eq 41, 3) := by decide +kernel
theorem dL_law_651 : decode cL_law 651 = .ok (.iconst 0, 1) := by decide +kernel
theorem dL_law_652 : decode cL_law 652 = .ok (.ireturn, 1) := by decide +kernel
theorem dL_law_653 : decode cL_law 653 = .ok (.aload_n 1, 1) := by decide +kernel
theorem dL_law_654 : decode cL_law 654 = .ok (.aload_n 0, 1) := by decide +kernel
theorem dL_law_655 : decode cL_law 655 = .ok (.iload_n 3, 1) := by decide +kernel
theorem dL_law_656 : decode cL_law 656 = .ok (.iconst 1, 1) := by decide +kernel
theorem dL_law_657 : decode cL_law 657 = .ok (.iadd, 1) := by decide +kernel
theorem dL_law_658 : decode cL_law 658 = .ok (.iaload, 1) := by decide +kernel
theorem dL_law_659 : decode cL_law 659 = .ok (.invokevirtual 101, 3) := by decide +kernel
theorem dL_law_662 : decode cL_law 662 = .ok (.aload_n 2, 1) := by decide +kernel
theorem dL_law_663 : decode cL_law 663 = .ok (.aload_n 0, 1) := by decide +kernel
theorem dL_law_664 : decode cL_law 664 = .ok (.iload_n 3, 1) := by decide +kernel
theorem dL_law_665 : decode cL_law 665 = .ok (.iconst 1, 1) := by decide +kernel
theorem dL_law_666 : decode cL_law 666 = .ok (.iadd, 1) := by decide +kernel
theorem dL_law_667 : decode cL_law 667 = .ok (.iaload, 1) := by decide +kernel
theorem dL_law_668 : decode cL_law 668 = .ok (.invokevirtual 104, 3) := by decide +kernel
theorem dL_law_671 : decode cL_law 671 = .ok (.if_icmp .eq 18, 3) := by decide +kernel
theorem dL_law_674 : decode cL_law 674 = .ok (.iconst 0, 1) := by decide +kernel
theorem dL_law_675 : decode cL_law 675 = .ok (.ireturn, 1) := by decide +kernel
theorem dL_law_676 : decode cL_law 676 = .ok (.aload_n 1, 1) := by decide +kernel
theorem dL_law_677 : decode cL_law 677 = .ok (.invokevirtual 105, 3) := by decide +kernel
theorem dL_law_680 : decode cL_law 680 = .ok (.aload_n 2, 1) := by decide +kernel
theorem dL_law_681 : decode cL_law 681 = .ok (.invokevirtual 108, 3) := by decide +kernel
theorem dL_law_684 : decode cL_law 684 = .ok (.if_icmp .eq 5, 3) := by decide +kernel
theorem dL_law_687 : decode cL_law 687 = .ok (.iconst 0, 1) := by decide +kernel
theorem dL_law_688 : decode cL_law 688 = .ok (.ireturn, 1) := by decide +kernel
theorem dL_law_689 : decode cL_law 689 = .ok (.iinc 3 4, 3) := by decide +kernel
theorem dL_law_692 : decode cL_law 692 = .ok (.goto (-674), 3) := by decide +kernel
theorem dL_law_695 : decode cL_law 695 = .ok (.iconst 1, 1) := by decide +kernel
theorem dL_law_696 : decode cL_law 696 = .ok (.ireturn, 1) := by decide +kernel
end
section
/-! the words of the tables, one by one: LW is what methods may ask of them -/
def LW : List Cond := lw_tbl.filter goodWord
theorem LW_in {w : Cond} (h : w ∈ lw_tbl) (hg : goodWord w = true) : w ∈ LW := List.mem_filter.mpr ⟨h, hg⟩
theorem LW_good : GoodIn LW LW := fun w h => ⟨h, good_of_word (List.mem_filter.mp h).2⟩
theorem LW_tbl : ∀ w ∈ LW, w ∈ lw_tbl := fun w h => (List.mem_filter.mp h).1
theorem m_0 : (Jvm.Cond.initialized "SharedEchoesLaw") ∈ LW := LW_in (List.mem_append_right _ (List.mem_append_left _ ((List.mem_of_getElem? (i := 0) (by decide +kernel))))) (by decide +kernel)
theorem m_1 : (Jvm.Cond.initialized "SharedEchoes") ∈ LW := LW_in (List.mem_append_right _ (List.mem_append_left _ ((List.mem_of_getElem? (i := 1) (by decide +kernel))))) (by decide +kernel)
theorem m_2 : (Jvm.Cond.initialized "SharedEchoes$State") ∈ LW := LW_in (List.mem_append_right _ (List.mem_append_left _ ((List.mem_of_getElem? (i := 2) (by decide +kernel))))) (by decide +kernel)
theorem m_3 : (Jvm.Cond.initialized "SharedEchoes$Ring") ∈ LW := LW_in (List.mem_append_right _ (List.mem_append_left _ ((List.mem_of_getElem? (i := 3) (by decide +kernel))))) (by decide +kernel)
theorem m_4 : (Jvm.Cond.initialized "SharedEchoes$Outputs") ∈ LW := LW_in (List.mem_append_right _ (List.mem_append_left _ ((List.mem_of_getElem? (i := 4) (by decide +kernel))))) (by decide +kernel)
theorem m_5 : (Jvm.Cond.initialized "SharedEchoes$Meters") ∈ LW := LW_in (List.mem_append_right _ (List.mem_append_left _ ((List.mem_of_getElem? (i := 5) (by decide +kernel))))) (by decide +kernel)
theorem m_6 : (Jvm.Cond.initialized "SharedEchoes$History") ∈ LW := LW_in (List.mem_append_right _ (List.mem_append_left _ ((List.mem_of_getElem? (i := 6) (by decide +kernel))))) (by decide +kernel)
theorem m_7 : (Jvm.Cond.initialized "SharedEchoes$Text") ∈ LW := LW_in (List.mem_append_right _ (List.mem_append_left _ ((List.mem_of_getElem? (i := 7) (by decide +kernel))))) (by decide +kernel)
theorem m_8 : (Jvm.Cond.initialized "SharedEchoes$Order") ∈ LW := LW_in (List.mem_append_right _ (List.mem_append_left _ ((List.mem_of_getElem? (i := 8) (by decide +kernel))))) (by decide +kernel)
theorem m_9 : (Jvm.Cond.initialized "SharedEchoes$Fault") ∈ LW := LW_in (List.mem_append_right _ (List.mem_append_left _ ((List.mem_of_getElem? (i := 9) (by decide +kernel))))) (by decide +kernel)
theorem m_10 : (Jvm.Cond.initialized "SharedEchoesModel") ∈ LW := LW_in (List.mem_append_right _ (List.mem_append_left _ ((List.mem_of_getElem? (i := 10) (by decide +kernel))))) (by decide +kernel)
theorem m_11 : (Jvm.Cond.initialized "java/lang/Math") ∈ LW := LW_in (List.mem_append_right _ (List.mem_append_left _ ((List.mem_of_getElem? (i := 11) (by decide +kernel))))) (by decide +kernel)
theorem m_12 : (Jvm.Cond.initialized "java/lang/System") ∈ LW := LW_in (List.mem_append_right _ (List.mem_append_left _ ((List.mem_of_getElem? (i := 12) (by decide +kernel))))) (by decide +kernel)
theorem m_13 : (Jvm.Cond.initialized "java/lang/Number") ∈ LW := LW_in (List.mem_append_right _ (List.mem_append_left _ ((List.mem_of_getElem? (i := 13) (by decide +kernel))))) (by decide +kernel)
theorem m_14 : (Jvm.Cond.initialized "java/lang/Float") ∈ LW := LW_in (List.mem_append_right _ (List.mem_append_left _ ((List.mem_of_getElem? (i := 14) (by decide +kernel))))) (by decide +kernel)
theorem m_15 : (Jvm.Cond.initialized "java/util/Arrays") ∈ LW := LW_in (List.mem_append_right _ (List.mem_append_left _ ((List.mem_of_getElem? (i := 15) (by decide +kernel))))) (by decide +kernel)
theorem m_16 : (Jvm.Cond.classLink "SharedEchoesLaw" (7 : Nat) "SharedEchoes") ∈ LW := LW_in (List.mem_append_right _ (List.mem_append_left _ ((List.mem_of_getElem? (i := 16) (by decide +kernel))))) (by decide +kernel)
theorem m_17 : (Jvm.Cond.instantiable "SharedEchoes" (6 : Nat)) ∈ LW := LW_in (List.mem_append_right _ (List.mem_append_left _ ((List.mem_of_getElem? (i := 17) (by decide +kernel))))) (by decide +kernel)
theorem m_18 : (Jvm.Cond.methodLink "SharedEchoesLaw" (9 : Nat) ({ cls := "SharedEchoes", name := "<init>", desc := "()V" } : Jvm.MethodName)) ∈ LW := LW_in (List.mem_append_right _ (List.mem_append_left _ ((List.mem_of_getElem? (i := 18) (by decide +kernel))))) (by decide +kernel)
theorem m_19 : (Jvm.Cond.instanceMethod ({ cls := "SharedEchoes", name := "<init>", desc := "()V" } : Jvm.MethodName)) ∈ LW := LW_in (List.mem_append_right _ (List.mem_append_left _ ((List.mem_of_getElem? (i := 19) (by decide +kernel))))) (by decide +kernel)
theorem m_20 : (Jvm.Cond.code ({ cls := "SharedEchoes", name := "<init>", desc := "()V" } : Jvm.MethodName) prog_1_method_1_code (1 : Nat) (Option.none : Option Jvm.ClassFile.FieldType)) ∈ LW := LW_in (List.mem_append_right _ (List.mem_append_left _ ((List.mem_of_getElem? (i := 20) (by decide +kernel))))) (by decide +kernel)
theorem m_21 : (Jvm.Cond.methodLink "SharedEchoes" (1 : Nat) ({ cls := "java/lang/Object", name := "<init>", desc := "()V" } : Jvm.MethodName)) ∈ LW := LW_in (List.mem_append_right _ (List.mem_append_left _ ((List.mem_of_getElem? (i := 21) (by decide +kernel))))) (by decide +kernel)
theorem m_22 : (Jvm.Cond.instanceMethod ({ cls := "java/lang/Object", name := "<init>", desc := "()V" } : Jvm.MethodName)) ∈ LW := LW_in (List.mem_append_right _ (List.mem_append_left _ ((List.mem_of_getElem? (i := 22) (by decide +kernel))))) (by decide +kernel)
theorem m_23 : (Jvm.Cond.code ({ cls := "java/lang/Object", name := "<init>", desc := "()V" } : Jvm.MethodName) object_method_1_code (1 : Nat) (Option.none : Option Jvm.ClassFile.FieldType)) ∈ LW := LW_in (List.mem_append_right _ (List.mem_append_left _ ((List.mem_of_getElem? (i := 23) (by decide +kernel))))) (by decide +kernel)
theorem m_24 : (Jvm.Cond.classLink "SharedEchoes" (7 : Nat) "SharedEchoes$State") ∈ LW := LW_in (List.mem_append_right _ (List.mem_append_left _ ((List.mem_of_getElem? (i := 24) (by decide +kernel))))) (by decide +kernel)
theorem m_25 : (Jvm.Cond.instantiable "SharedEchoes$State" (8 : Nat)) ∈ LW := LW_in (List.mem_append_right _ (List.mem_append_left _ ((List.mem_of_getElem? (i := 25) (by decide +kernel))))) (by decide +kernel)
theorem m_26 : (Jvm.Cond.methodLink "SharedEchoes" (9 : Nat) ({ cls := "SharedEchoes$State", name := "<init>", desc := "()V" } : Jvm.MethodName)) ∈ LW := LW_in (List.mem_append_right _ (List.mem_append_left _ ((List.mem_of_getElem? (i := 26) (by decide +kernel))))) (by decide +kernel)
theorem m_27 : (Jvm.Cond.instanceMethod ({ cls := "SharedEchoes$State", name := "<init>", desc := "()V" } : Jvm.MethodName)) ∈ LW := LW_in (List.mem_append_right _ (List.mem_append_left _ ((List.mem_of_getElem? (i := 27) (by decide +kernel))))) (by decide +kernel)
theorem m_28 : (Jvm.Cond.code ({ cls := "SharedEchoes$State", name := "<init>", desc := "()V" } : Jvm.MethodName) prog_8_method_1_code (1 : Nat) (Option.none : Option Jvm.ClassFile.FieldType)) ∈ LW := LW_in (List.mem_append_right _ (List.mem_append_left _ ((List.mem_of_getElem? (i := 28) (by decide +kernel))))) (by decide +kernel)
theorem m_29 : (Jvm.Cond.methodLink "SharedEchoes$State" (3 : Nat) ({ cls := "java/lang/Object", name := "<init>", desc := "()V" } : Jvm.MethodName)) ∈ LW := LW_in (List.mem_append_right _ (List.mem_append_left _ ((List.mem_of_getElem? (i := 29) (by decide +kernel))))) (by decide +kernel)
theorem m_30 : (Jvm.Cond.classLink "SharedEchoes$State" (9 : Nat) "SharedEchoes$Ring") ∈ LW := LW_in (List.mem_append_right _ (List.mem_append_left _ ((List.mem_of_getElem? (i := 30) (by decide +kernel))))) (by decide +kernel)
theorem m_31 : (Jvm.Cond.instantiable "SharedEchoes$Ring" (3 : Nat)) ∈ LW := LW_in (List.mem_append_right _ (List.mem_append_left _ ((List.mem_of_getElem? (i := 31) (by decide +kernel))))) (by decide +kernel)
theorem m_32 : (Jvm.Cond.instanceMethod ({ cls := "SharedEchoes$Ring", name := "<init>", desc := "()V" } : Jvm.MethodName)) ∈ LW := LW_in (List.mem_append_right _ (List.mem_append_left _ ((List.mem_of_getElem? (i := 33) (by decide +kernel))))) (by decide +kernel)
theorem m_33 : (Jvm.Cond.code ({ cls := "SharedEchoes$Ring", name := "<init>", desc := "()V" } : Jvm.MethodName) prog_7_method_1_code (1 : Nat) (Option.none : Option Jvm.ClassFile.FieldType)) ∈ LW := LW_in (List.mem_append_right _ (List.mem_append_left _ ((List.mem_of_getElem? (i := 34) (by decide +kernel))))) (by decide +kernel)
theorem m_34 : (Jvm.Cond.methodLink "SharedEchoes$Ring" (3 : Nat) ({ cls := "java/lang/Object", name := "<init>", desc := "()V" } : Jvm.MethodName)) ∈ LW := LW_in (List.mem_append_right _ (List.mem_append_left _ ((List.mem_of_getElem? (i := 35) (by decide +kernel))))) (by decide +kernel)
theorem m_35 : (Jvm.Cond.fieldLink "SharedEchoes$Ring" (9 : Nat) "SharedEchoes$Ring" "words" "[I") ∈ LW := LW_in (List.mem_append_right _ (List.mem_append_left _ ((List.mem_of_getElem? (i := 36) (by decide +kernel))))) (by decide +kernel)
theorem m_36 : (Jvm.Cond.fieldLink "SharedEchoes$Ring" (19 : Nat) "SharedEchoes$Ring" "first" "I") ∈ LW := LW_in (List.mem_append_right _ (List.mem_append_left _ ((List.mem_of_getElem? (i := 37) (by decide +kernel))))) (by decide +kernel)
theorem m_37 : (Jvm.Cond.fieldLink "SharedEchoes$Ring" (15 : Nat) "SharedEchoes$Ring" "length" "I") ∈ LW := LW_in (List.mem_append_right _ (List.mem_append_left _ ((List.mem_of_getElem? (i := 38) (by decide +kernel))))) (by decide +kernel)
theorem m_38 : (Jvm.Cond.fieldLink "SharedEchoes$State" (51 : Nat) "SharedEchoes$Ring" "length" "I") ∈ LW := LW_in (List.mem_append_right _ (List.mem_append_left _ ((List.mem_of_getElem? (i := 39) (by decide +kernel))))) (by decide +kernel)
theorem m_39 : (Jvm.Cond.fieldLink "SharedEchoes" (109 : Nat) "SharedEchoes$Ring" "length" "I") ∈ LW := LW_in (List.mem_append_right _ (List.mem_append_left _ ((List.mem_of_getElem? (i := 40) (by decide +kernel))))) (by decide +kernel)
theorem m_40 : (Jvm.Cond.laysFinal "SharedEchoes$Ring" "SharedEchoes$Ring" "words" "[I") ∈ LW := LW_in (List.mem_append_right _ (List.mem_append_left _ ((List.mem_of_getElem? (i := 41) (by decide +kernel))))) (by decide +kernel)
theorem m_41 : (Jvm.Cond.lays "SharedEchoes$Ring" "SharedEchoes$Ring" "first" "I") ∈ LW := LW_in (List.mem_append_right _ (List.mem_append_left _ ((List.mem_of_getElem? (i := 43) (by decide +kernel))))) (by decide +kernel)
theorem m_42 : (Jvm.Cond.lays "SharedEchoes$Ring" "SharedEchoes$Ring" "length" "I") ∈ LW := LW_in (List.mem_append_right _ (List.mem_append_left _ ((List.mem_of_getElem? (i := 45) (by decide +kernel))))) (by decide +kernel)
theorem m_43 : (Jvm.Cond.arrayClass Jvm.ClassFile.FieldType.int) ∈ LW := LW_in (List.mem_append_right _ (List.mem_append_left _ ((List.mem_of_getElem? (i := 48) (by decide +kernel))))) (by decide +kernel)
theorem m_44 : (Jvm.Cond.classLink "SharedEchoes$State" (18 : Nat) "SharedEchoes$Outputs") ∈ LW := LW_in (List.mem_append_right _ (List.mem_append_left _ ((List.mem_of_getElem? (i := 49) (by decide +kernel))))) (by decide +kernel)
theorem m_45 : (Jvm.Cond.instantiable "SharedEchoes$Outputs" (3 : Nat)) ∈ LW := LW_in (List.mem_append_right _ (List.mem_append_left _ ((List.mem_of_getElem? (i := 50) (by decide +kernel))))) (by decide +kernel)
theorem m_46 : (Jvm.Cond.instanceMethod ({ cls := "SharedEchoes$Outputs", name := "<init>", desc := "()V" } : Jvm.MethodName)) ∈ LW := LW_in (List.mem_append_right _ (List.mem_append_left _ ((List.mem_of_getElem? (i := 52) (by decide +kernel))))) (by decide +kernel)
theorem m_47 : (Jvm.Cond.code ({ cls := "SharedEchoes$Outputs", name := "<init>", desc := "()V" } : Jvm.MethodName) prog_6_method_1_code (1 : Nat) (Option.none : Option Jvm.ClassFile.FieldType)) ∈ LW := LW_in (List.mem_append_right _ (List.mem_append_left _ ((List.mem_of_getElem? (i := 53) (by decide +kernel))))) (by decide +kernel)
theorem m_48 : (Jvm.Cond.methodLink "SharedEchoes$Outputs" (3 : Nat) ({ cls := "java/lang/Object", name := "<init>", desc := "()V" } : Jvm.MethodName)) ∈ LW := LW_in (List.mem_append_right _ (List.mem_append_left _ ((List.mem_of_getElem? (i := 54) (by decide +kernel))))) (by decide +kernel)
theorem m_49 : (Jvm.Cond.fieldLink "SharedEchoes$Outputs" (9 : Nat) "SharedEchoes$Outputs" "row" "[I") ∈ LW := LW_in (List.mem_append_right _ (List.mem_append_left _ ((List.mem_of_getElem? (i := 55) (by decide +kernel))))) (by decide +kernel)
theorem m_50 : (Jvm.Cond.fieldLink "SharedEchoes$Outputs" (15 : Nat) "SharedEchoes$Outputs" "next" "I") ∈ LW := LW_in (List.mem_append_right _ (List.mem_append_left _ ((List.mem_of_getElem? (i := 56) (by decide +kernel))))) (by decide +kernel)
theorem m_51 : (Jvm.Cond.fieldLink "SharedEchoes$Outputs" (19 : Nat) "SharedEchoes$Outputs" "kept" "I") ∈ LW := LW_in (List.mem_append_right _ (List.mem_append_left _ ((List.mem_of_getElem? (i := 57) (by decide +kernel))))) (by decide +kernel)
theorem m_52 : (Jvm.Cond.fieldLink "SharedEchoes" (158 : Nat) "SharedEchoes$Outputs" "kept" "I") ∈ LW := LW_in (List.mem_append_right _ (List.mem_append_left _ ((List.mem_of_getElem? (i := 58) (by decide +kernel))))) (by decide +kernel)
theorem m_53 : (Jvm.Cond.laysFinal "SharedEchoes$Outputs" "SharedEchoes$Outputs" "row" "[I") ∈ LW := LW_in (List.mem_append_right _ (List.mem_append_left _ ((List.mem_of_getElem? (i := 59) (by decide +kernel))))) (by decide +kernel)
theorem m_54 : (Jvm.Cond.lays "SharedEchoes$Outputs" "SharedEchoes$Outputs" "next" "I") ∈ LW := LW_in (List.mem_append_right _ (List.mem_append_left _ ((List.mem_of_getElem? (i := 61) (by decide +kernel))))) (by decide +kernel)
theorem m_55 : (Jvm.Cond.lays "SharedEchoes$Outputs" "SharedEchoes$Outputs" "kept" "I") ∈ LW := LW_in (List.mem_append_right _ (List.mem_append_left _ ((List.mem_of_getElem? (i := 63) (by decide +kernel))))) (by decide +kernel)
theorem m_56 : (Jvm.Cond.classLink "SharedEchoes$State" (25 : Nat) "SharedEchoes$Meters") ∈ LW := LW_in (List.mem_append_right _ (List.mem_append_left _ ((List.mem_of_getElem? (i := 66) (by decide +kernel))))) (by decide +kernel)
theorem m_57 : (Jvm.Cond.instantiable "SharedEchoes$Meters" (5 : Nat)) ∈ LW := LW_in (List.mem_append_right _ (List.mem_append_left _ ((List.mem_of_getElem? (i := 67) (by decide +kernel))))) (by decide +kernel)
theorem m_58 : (Jvm.Cond.instanceMethod ({ cls := "SharedEchoes$Meters", name := "<init>", desc := "()V" } : Jvm.MethodName)) ∈ LW := LW_in (List.mem_append_right _ (List.mem_append_left _ ((List.mem_of_getElem? (i := 69) (by decide +kernel))))) (by decide +kernel)
theorem m_59 : (Jvm.Cond.code ({ cls := "SharedEchoes$Meters", name := "<init>", desc := "()V" } : Jvm.MethodName) prog_4_method_1_code (1 : Nat) (Option.none : Option Jvm.ClassFile.FieldType)) ∈ LW := LW_in (List.mem_append_right _ (List.mem_append_left _ ((List.mem_of_getElem? (i := 70) (by decide +kernel))))) (by decide +kernel)
theorem m_60 : (Jvm.Cond.methodLink "SharedEchoes$Meters" (1 : Nat) ({ cls := "java/lang/Object", name := "<init>", desc := "()V" } : Jvm.MethodName)) ∈ LW := LW_in (List.mem_append_right _ (List.mem_append_left _ ((List.mem_of_getElem? (i := 71) (by decide +kernel))))) (by decide +kernel)
theorem m_61 : (Jvm.Cond.fieldLink "SharedEchoes$Meters" (13 : Nat) "SharedEchoes$Meters" "samples" "I") ∈ LW := LW_in (List.mem_append_right _ (List.mem_append_left _ ((List.mem_of_getElem? (i := 72) (by decide +kernel))))) (by decide +kernel)
theorem m_62 : (Jvm.Cond.fieldLink "SharedEchoes" (132 : Nat) "SharedEchoes$Meters" "samples" "I") ∈ LW := LW_in (List.mem_append_right _ (List.mem_append_left _ ((List.mem_of_getElem? (i := 73) (by decide +kernel))))) (by decide +kernel)
theorem m_63 : (Jvm.Cond.fieldLink "SharedEchoes$Meters" (23 : Nat) "SharedEchoes$Meters" "greatest" "I") ∈ LW := LW_in (List.mem_append_right _ (List.mem_append_left _ ((List.mem_of_getElem? (i := 74) (by decide +kernel))))) (by decide +kernel)
theorem m_64 : (Jvm.Cond.fieldLink "SharedEchoes" (166 : Nat) "SharedEchoes$Meters" "greatest" "I") ∈ LW := LW_in (List.mem_append_right _ (List.mem_append_left _ ((List.mem_of_getElem? (i := 75) (by decide +kernel))))) (by decide +kernel)
theorem m_65 : (Jvm.Cond.fieldLink "SharedEchoes$Meters" (30 : Nat) "SharedEchoes$Meters" "heldOutputs" "I") ∈ LW := LW_in (List.mem_append_right _ (List.mem_append_left _ ((List.mem_of_getElem? (i := 76) (by decide +kernel))))) (by decide +kernel)
theorem m_66 : (Jvm.Cond.fieldLink "SharedEchoes" (169 : Nat) "SharedEchoes$Meters" "heldOutputs" "I") ∈ LW := LW_in (List.mem_append_right _ (List.mem_append_left _ ((List.mem_of_getElem? (i := 77) (by decide +kernel))))) (by decide +kernel)
theorem m_67 : (Jvm.Cond.fieldLink "SharedEchoes$Meters" (33 : Nat) "SharedEchoes$Meters" "heldWords" "I") ∈ LW := LW_in (List.mem_append_right _ (List.mem_append_left _ ((List.mem_of_getElem? (i := 78) (by decide +kernel))))) (by decide +kernel)
theorem m_68 : (Jvm.Cond.fieldLink "SharedEchoes" (172 : Nat) "SharedEchoes$Meters" "heldWords" "I") ∈ LW := LW_in (List.mem_append_right _ (List.mem_append_left _ ((List.mem_of_getElem? (i := 79) (by decide +kernel))))) (by decide +kernel)
theorem m_69 : (Jvm.Cond.fieldLink "SharedEchoes$Meters" (19 : Nat) "SharedEchoes$Meters" "sum" "J") ∈ LW := LW_in (List.mem_append_right _ (List.mem_append_left _ ((List.mem_of_getElem? (i := 80) (by decide +kernel))))) (by decide +kernel)
theorem m_70 : (Jvm.Cond.lays "SharedEchoes$Meters" "SharedEchoes$Meters" "samples" "I") ∈ LW := LW_in (List.mem_append_right _ (List.mem_append_left _ ((List.mem_of_getElem? (i := 81) (by decide +kernel))))) (by decide +kernel)
theorem m_71 : (Jvm.Cond.lays "SharedEchoes$Meters" "SharedEchoes$Meters" "greatest" "I") ∈ LW := LW_in (List.mem_append_right _ (List.mem_append_left _ ((List.mem_of_getElem? (i := 83) (by decide +kernel))))) (by decide +kernel)
theorem m_72 : (Jvm.Cond.lays "SharedEchoes$Meters" "SharedEchoes$Meters" "heldOutputs" "I") ∈ LW := LW_in (List.mem_append_right _ (List.mem_append_left _ ((List.mem_of_getElem? (i := 85) (by decide +kernel))))) (by decide +kernel)
theorem m_73 : (Jvm.Cond.lays "SharedEchoes$Meters" "SharedEchoes$Meters" "heldWords" "I") ∈ LW := LW_in (List.mem_append_right _ (List.mem_append_left _ ((List.mem_of_getElem? (i := 87) (by decide +kernel))))) (by decide +kernel)
theorem m_74 : (Jvm.Cond.lays "SharedEchoes$Meters" "SharedEchoes$Meters" "sum" "J") ∈ LW := LW_in (List.mem_append_right _ (List.mem_append_left _ ((List.mem_of_getElem? (i := 89) (by decide +kernel))))) (by decide +kernel)
theorem m_75 : (Jvm.Cond.fieldLink "SharedEchoes$State" (12 : Nat) "SharedEchoes$State" "ring" "LSharedEchoes$Ring;") ∈ LW := LW_in (List.mem_append_right _ (List.mem_append_left _ ((List.mem_of_getElem? (i := 92) (by decide +kernel))))) (by decide +kernel)
theorem m_76 : (Jvm.Cond.fieldLink "SharedEchoes" (105 : Nat) "SharedEchoes$State" "ring" "LSharedEchoes$Ring;") ∈ LW := LW_in (List.mem_append_right _ (List.mem_append_left _ ((List.mem_of_getElem? (i := 93) (by decide +kernel))))) (by decide +kernel)
theorem m_77 : (Jvm.Cond.fieldLink "SharedEchoes$State" (21 : Nat) "SharedEchoes$State" "outputs" "LSharedEchoes$Outputs;") ∈ LW := LW_in (List.mem_append_right _ (List.mem_append_left _ ((List.mem_of_getElem? (i := 94) (by decide +kernel))))) (by decide +kernel)
theorem m_78 : (Jvm.Cond.fieldLink "SharedEchoes" (154 : Nat) "SharedEchoes$State" "outputs" "LSharedEchoes$Outputs;") ∈ LW := LW_in (List.mem_append_right _ (List.mem_append_left _ ((List.mem_of_getElem? (i := 95) (by decide +kernel))))) (by decide +kernel)
theorem m_79 : (Jvm.Cond.fieldLink "SharedEchoes$State" (28 : Nat) "SharedEchoes$State" "meters" "LSharedEchoes$Meters;") ∈ LW := LW_in (List.mem_append_right _ (List.mem_append_left _ ((List.mem_of_getElem? (i := 96) (by decide +kernel))))) (by decide +kernel)
theorem m_80 : (Jvm.Cond.fieldLink "SharedEchoes" (128 : Nat) "SharedEchoes$State" "meters" "LSharedEchoes$Meters;") ∈ LW := LW_in (List.mem_append_right _ (List.mem_append_left _ ((List.mem_of_getElem? (i := 97) (by decide +kernel))))) (by decide +kernel)
theorem m_81 : (Jvm.Cond.fieldLink "SharedEchoes$State" (32 : Nat) "SharedEchoes$State" "delays" "[I") ∈ LW := LW_in (List.mem_append_right _ (List.mem_append_left _ ((List.mem_of_getElem? (i := 98) (by decide +kernel))))) (by decide +kernel)
theorem m_82 : (Jvm.Cond.fieldLink "SharedEchoes$State" (36 : Nat) "SharedEchoes$State" "gains" "[I") ∈ LW := LW_in (List.mem_append_right _ (List.mem_append_left _ ((List.mem_of_getElem? (i := 99) (by decide +kernel))))) (by decide +kernel)
theorem m_83 : (Jvm.Cond.fieldLink "SharedEchoes$State" (39 : Nat) "SharedEchoes$State" "limit" "I") ∈ LW := LW_in (List.mem_append_right _ (List.mem_append_left _ ((List.mem_of_getElem? (i := 100) (by decide +kernel))))) (by decide +kernel)
theorem m_84 : (Jvm.Cond.fieldLink "SharedEchoes" (198 : Nat) "SharedEchoes$State" "limit" "I") ∈ LW := LW_in (List.mem_append_right _ (List.mem_append_left _ ((List.mem_of_getElem? (i := 101) (by decide +kernel))))) (by decide +kernel)
theorem m_85 : (Jvm.Cond.fieldLink "SharedEchoes$State" (67 : Nat) "SharedEchoes$State" "shape" "I") ∈ LW := LW_in (List.mem_append_right _ (List.mem_append_left _ ((List.mem_of_getElem? (i := 102) (by decide +kernel))))) (by decide +kernel)
theorem m_86 : (Jvm.Cond.fieldLink "SharedEchoes" (221 : Nat) "SharedEchoes$State" "shape" "I") ∈ LW := LW_in (List.mem_append_right _ (List.mem_append_left _ ((List.mem_of_getElem? (i := 103) (by decide +kernel))))) (by decide +kernel)
theorem m_87 : (Jvm.Cond.fieldLink "SharedEchoes$State" (98 : Nat) "SharedEchoes$State" "stolenSoFar" "I") ∈ LW := LW_in (List.mem_append_right _ (List.mem_append_left _ ((List.mem_of_getElem? (i := 104) (by decide +kernel))))) (by decide +kernel)
theorem m_88 : (Jvm.Cond.fieldLink "SharedEchoes" (216 : Nat) "SharedEchoes$State" "stolenSoFar" "I") ∈ LW := LW_in (List.mem_append_right _ (List.mem_append_left _ ((List.mem_of_getElem? (i := 105) (by decide +kernel))))) (by decide +kernel)
theorem m_89 : (Jvm.Cond.laysFinal "SharedEchoes$State" "SharedEchoes$State" "ring" "LSharedEchoes$Ring;") ∈ LW := LW_in (List.mem_append_right _ (List.mem_append_left _ ((List.mem_of_getElem? (i := 106) (by decide +kernel))))) (by decide +kernel)
theorem m_90 : (Jvm.Cond.laysFinal "SharedEchoes$State" "SharedEchoes$State" "outputs" "LSharedEchoes$Outputs;") ∈ LW := LW_in (List.mem_append_right _ (List.mem_append_left _ ((List.mem_of_getElem? (i := 108) (by decide +kernel))))) (by decide +kernel)
theorem m_91 : (Jvm.Cond.laysFinal "SharedEchoes$State" "SharedEchoes$State" "meters" "LSharedEchoes$Meters;") ∈ LW := LW_in (List.mem_append_right _ (List.mem_append_left _ ((List.mem_of_getElem? (i := 110) (by decide +kernel))))) (by decide +kernel)
theorem m_92 : (Jvm.Cond.laysFinal "SharedEchoes$State" "SharedEchoes$State" "delays" "[I") ∈ LW := LW_in (List.mem_append_right _ (List.mem_append_left _ ((List.mem_of_getElem? (i := 112) (by decide +kernel))))) (by decide +kernel)
theorem m_93 : (Jvm.Cond.laysFinal "SharedEchoes$State" "SharedEchoes$State" "gains" "[I") ∈ LW := LW_in (List.mem_append_right _ (List.mem_append_left _ ((List.mem_of_getElem? (i := 114) (by decide +kernel))))) (by decide +kernel)
theorem m_94 : (Jvm.Cond.lays "SharedEchoes$State" "SharedEchoes$State" "limit" "I") ∈ LW := LW_in (List.mem_append_right _ (List.mem_append_left _ ((List.mem_of_getElem? (i := 116) (by decide +kernel))))) (by decide +kernel)
theorem m_95 : (Jvm.Cond.lays "SharedEchoes$State" "SharedEchoes$State" "shape" "I") ∈ LW := LW_in (List.mem_append_right _ (List.mem_append_left _ ((List.mem_of_getElem? (i := 118) (by decide +kernel))))) (by decide +kernel)
theorem m_96 : (Jvm.Cond.lays "SharedEchoes$State" "SharedEchoes$State" "stolenSoFar" "I") ∈ LW := LW_in (List.mem_append_right _ (List.mem_append_left _ ((List.mem_of_getElem? (i := 120) (by decide +kernel))))) (by decide +kernel)
theorem m_97 : (Jvm.Cond.classLink "SharedEchoes" (19 : Nat) "SharedEchoes$History") ∈ LW := LW_in (List.mem_append_right _ (List.mem_append_left _ ((List.mem_of_getElem? (i := 123) (by decide +kernel))))) (by decide +kernel)
theorem m_98 : (Jvm.Cond.instantiable "SharedEchoes$History" (3 : Nat)) ∈ LW := LW_in (List.mem_append_right _ (List.mem_append_left _ ((List.mem_of_getElem? (i := 124) (by decide +kernel))))) (by decide +kernel)
theorem m_99 : (Jvm.Cond.methodLink "SharedEchoes" (21 : Nat) ({ cls := "SharedEchoes$History", name := "<init>", desc := "()V" } : Jvm.MethodName)) ∈ LW := LW_in (List.mem_append_right _ (List.mem_append_left _ ((List.mem_of_getElem? (i := 125) (by decide +kernel))))) (by decide +kernel)
theorem m_100 : (Jvm.Cond.instanceMethod ({ cls := "SharedEchoes$History", name := "<init>", desc := "()V" } : Jvm.MethodName)) ∈ LW := LW_in (List.mem_append_right _ (List.mem_append_left _ ((List.mem_of_getElem? (i := 126) (by decide +kernel))))) (by decide +kernel)
theorem m_101 : (Jvm.Cond.code ({ cls := "SharedEchoes$History", name := "<init>", desc := "()V" } : Jvm.MethodName) prog_3_method_1_code (2 : Nat) (Option.none : Option Jvm.ClassFile.FieldType)) ∈ LW := LW_in (List.mem_append_right _ (List.mem_append_left _ ((List.mem_of_getElem? (i := 127) (by decide +kernel))))) (by decide +kernel)
theorem m_102 : (Jvm.Cond.methodLink "SharedEchoes$History" (3 : Nat) ({ cls := "java/lang/Object", name := "<init>", desc := "()V" } : Jvm.MethodName)) ∈ LW := LW_in (List.mem_append_right _ (List.mem_append_left _ ((List.mem_of_getElem? (i := 128) (by decide +kernel))))) (by decide +kernel)
theorem m_103 : (Jvm.Cond.classLink "SharedEchoes$History" (9 : Nat) "SharedEchoes$State") ∈ LW := LW_in (List.mem_append_right _ (List.mem_append_left _ ((List.mem_of_getElem? (i := 129) (by decide +kernel))))) (by decide +kernel)
theorem m_104 : (Jvm.Cond.methodLink "SharedEchoes$History" (17 : Nat) ({ cls := "SharedEchoes$State", name := "<init>", desc := "()V" } : Jvm.MethodName)) ∈ LW := LW_in (List.mem_append_right _ (List.mem_append_left _ ((List.mem_of_getElem? (i := 131) (by decide +kernel))))) (by decide +kernel)
theorem m_105 : (Jvm.Cond.fieldLink "SharedEchoes$History" (11 : Nat) "SharedEchoes$History" "states" "[LSharedEchoes$State;") ∈ LW := LW_in (List.mem_append_right _ (List.mem_append_left _ ((List.mem_of_getElem? (i := 132) (by decide +kernel))))) (by decide +kernel)
theorem m_106 : (Jvm.Cond.fieldLink "SharedEchoes$History" (18 : Nat) "SharedEchoes$History" "oldest" "I") ∈ LW := LW_in (List.mem_append_right _ (List.mem_append_left _ ((List.mem_of_getElem? (i := 133) (by decide +kernel))))) (by decide +kernel)
theorem m_107 : (Jvm.Cond.fieldLink "SharedEchoes$History" (28 : Nat) "SharedEchoes$History" "kept" "I") ∈ LW := LW_in (List.mem_append_right _ (List.mem_append_left _ ((List.mem_of_getElem? (i := 134) (by decide +kernel))))) (by decide +kernel)
theorem m_108 : (Jvm.Cond.fieldLink "SharedEchoes" (219 : Nat) "SharedEchoes$History" "kept" "I") ∈ LW := LW_in (List.mem_append_right _ (List.mem_append_left _ ((List.mem_of_getElem? (i := 135) (by decide +kernel))))) (by decide +kernel)
theorem m_109 : (Jvm.Cond.laysFinal "SharedEchoes$History" "SharedEchoes$History" "states" "[LSharedEchoes$State;") ∈ LW := LW_in (List.mem_append_right _ (List.mem_append_left _ ((List.mem_of_getElem? (i := 136) (by decide +kernel))))) (by decide +kernel)
theorem m_110 : (Jvm.Cond.lays "SharedEchoes$History" "SharedEchoes$History" "oldest" "I") ∈ LW := LW_in (List.mem_append_right _ (List.mem_append_left _ ((List.mem_of_getElem? (i := 138) (by decide +kernel))))) (by decide +kernel)
theorem m_111 : (Jvm.Cond.lays "SharedEchoes$History" "SharedEchoes$History" "kept" "I") ∈ LW := LW_in (List.mem_append_right _ (List.mem_append_left _ ((List.mem_of_getElem? (i := 140) (by decide +kernel))))) (by decide +kernel)
theorem m_112 : (Jvm.Cond.classLink "SharedEchoes" (26 : Nat) "SharedEchoes$Text") ∈ LW := LW_in (List.mem_append_right _ (List.mem_append_left _ ((List.mem_of_getElem? (i := 143) (by decide +kernel))))) (by decide +kernel)
theorem m_113 : (Jvm.Cond.instantiable "SharedEchoes$Text" (2 : Nat)) ∈ LW := LW_in (List.mem_append_right _ (List.mem_append_left _ ((List.mem_of_getElem? (i := 144) (by decide +kernel))))) (by decide +kernel)
theorem m_114 : (Jvm.Cond.instanceMethod ({ cls := "SharedEchoes$Text", name := "<init>", desc := "()V" } : Jvm.MethodName)) ∈ LW := LW_in (List.mem_append_right _ (List.mem_append_left _ ((List.mem_of_getElem? (i := 146) (by decide +kernel))))) (by decide +kernel)
theorem m_115 : (Jvm.Cond.code ({ cls := "SharedEchoes$Text", name := "<init>", desc := "()V" } : Jvm.MethodName) prog_9_method_1_code (1 : Nat) (Option.none : Option Jvm.ClassFile.FieldType)) ∈ LW := LW_in (List.mem_append_right _ (List.mem_append_left _ ((List.mem_of_getElem? (i := 147) (by decide +kernel))))) (by decide +kernel)
theorem m_116 : (Jvm.Cond.methodLink "SharedEchoes$Text" (3 : Nat) ({ cls := "java/lang/Object", name := "<init>", desc := "()V" } : Jvm.MethodName)) ∈ LW := LW_in (List.mem_append_right _ (List.mem_append_left _ ((List.mem_of_getElem? (i := 148) (by decide +kernel))))) (by decide +kernel)
theorem m_117 : (Jvm.Cond.fieldLink "SharedEchoes$Text" (9 : Nat) "SharedEchoes$Text" "characters" "[I") ∈ LW := LW_in (List.mem_append_right _ (List.mem_append_left _ ((List.mem_of_getElem? (i := 149) (by decide +kernel))))) (by decide +kernel)
theorem m_118 : (Jvm.Cond.fieldLink "SharedEchoes$Text" (15 : Nat) "SharedEchoes$Text" "length" "I") ∈ LW := LW_in (List.mem_append_right _ (List.mem_append_left _ ((List.mem_of_getElem? (i := 150) (by decide +kernel))))) (by decide +kernel)
theorem m_119 : (Jvm.Cond.fieldLink "SharedEchoes" (220 : Nat) "SharedEchoes$Text" "length" "I") ∈ LW := LW_in (List.mem_append_right _ (List.mem_append_left _ ((List.mem_of_getElem? (i := 151) (by decide +kernel))))) (by decide +kernel)
theorem m_120 : (Jvm.Cond.laysFinal "SharedEchoes$Text" "SharedEchoes$Text" "characters" "[I") ∈ LW := LW_in (List.mem_append_right _ (List.mem_append_left _ ((List.mem_of_getElem? (i := 152) (by decide +kernel))))) (by decide +kernel)
theorem m_121 : (Jvm.Cond.lays "SharedEchoes$Text" "SharedEchoes$Text" "length" "I") ∈ LW := LW_in (List.mem_append_right _ (List.mem_append_left _ ((List.mem_of_getElem? (i := 154) (by decide +kernel))))) (by decide +kernel)
theorem m_122 : (Jvm.Cond.classLink "SharedEchoes" (33 : Nat) "SharedEchoes$Order") ∈ LW := LW_in (List.mem_append_right _ (List.mem_append_left _ ((List.mem_of_getElem? (i := 157) (by decide +kernel))))) (by decide +kernel)
theorem m_123 : (Jvm.Cond.instantiable "SharedEchoes$Order" (4 : Nat)) ∈ LW := LW_in (List.mem_append_right _ (List.mem_append_left _ ((List.mem_of_getElem? (i := 158) (by decide +kernel))))) (by decide +kernel)
theorem m_124 : (Jvm.Cond.instanceMethod ({ cls := "SharedEchoes$Order", name := "<init>", desc := "()V" } : Jvm.MethodName)) ∈ LW := LW_in (List.mem_append_right _ (List.mem_append_left _ ((List.mem_of_getElem? (i := 160) (by decide +kernel))))) (by decide +kernel)
theorem m_125 : (Jvm.Cond.code ({ cls := "SharedEchoes$Order", name := "<init>", desc := "()V" } : Jvm.MethodName) prog_5_method_1_code (1 : Nat) (Option.none : Option Jvm.ClassFile.FieldType)) ∈ LW := LW_in (List.mem_append_right _ (List.mem_append_left _ ((List.mem_of_getElem? (i := 161) (by decide +kernel))))) (by decide +kernel)
theorem m_126 : (Jvm.Cond.methodLink "SharedEchoes$Order" (3 : Nat) ({ cls := "java/lang/Object", name := "<init>", desc := "()V" } : Jvm.MethodName)) ∈ LW := LW_in (List.mem_append_right _ (List.mem_append_left _ ((List.mem_of_getElem? (i := 162) (by decide +kernel))))) (by decide +kernel)
theorem m_127 : (Jvm.Cond.fieldLink "SharedEchoes$Order" (9 : Nat) "SharedEchoes$Order" "numbers" "[I") ∈ LW := LW_in (List.mem_append_right _ (List.mem_append_left _ ((List.mem_of_getElem? (i := 163) (by decide +kernel))))) (by decide +kernel)
theorem m_128 : (Jvm.Cond.fieldLink "SharedEchoes$Order" (21 : Nat) "SharedEchoes$Order" "kind" "I") ∈ LW := LW_in (List.mem_append_right _ (List.mem_append_left _ ((List.mem_of_getElem? (i := 164) (by decide +kernel))))) (by decide +kernel)
theorem m_129 : (Jvm.Cond.fieldLink "SharedEchoes" (275 : Nat) "SharedEchoes$Order" "kind" "I") ∈ LW := LW_in (List.mem_append_right _ (List.mem_append_left _ ((List.mem_of_getElem? (i := 165) (by decide +kernel))))) (by decide +kernel)
theorem m_130 : (Jvm.Cond.fieldLink "SharedEchoes$Order" (25 : Nat) "SharedEchoes$Order" "end" "I") ∈ LW := LW_in (List.mem_append_right _ (List.mem_append_left _ ((List.mem_of_getElem? (i := 166) (by decide +kernel))))) (by decide +kernel)
theorem m_131 : (Jvm.Cond.fieldLink "SharedEchoes" (254 : Nat) "SharedEchoes$Order" "end" "I") ∈ LW := LW_in (List.mem_append_right _ (List.mem_append_left _ ((List.mem_of_getElem? (i := 167) (by decide +kernel))))) (by decide +kernel)
theorem m_132 : (Jvm.Cond.fieldLink "SharedEchoes$Order" (32 : Nat) "SharedEchoes$Order" "whole" "Z") ∈ LW := LW_in (List.mem_append_right _ (List.mem_append_left _ ((List.mem_of_getElem? (i := 168) (by decide +kernel))))) (by decide +kernel)
theorem m_133 : (Jvm.Cond.fieldLink "SharedEchoes" (260 : Nat) "SharedEchoes$Order" "whole" "Z") ∈ LW := LW_in (List.mem_append_right _ (List.mem_append_left _ ((List.mem_of_getElem? (i := 169) (by decide +kernel))))) (by decide +kernel)
theorem m_134 : (Jvm.Cond.laysFinal "SharedEchoes$Order" "SharedEchoes$Order" "numbers" "[I") ∈ LW := LW_in (List.mem_append_right _ (List.mem_append_left _ ((List.mem_of_getElem? (i := 170) (by decide +kernel))))) (by decide +kernel)
theorem m_135 : (Jvm.Cond.lays "SharedEchoes$Order" "SharedEchoes$Order" "kind" "I") ∈ LW := LW_in (List.mem_append_right _ (List.mem_append_left _ ((List.mem_of_getElem? (i := 172) (by decide +kernel))))) (by decide +kernel)
theorem m_136 : (Jvm.Cond.lays "SharedEchoes$Order" "SharedEchoes$Order" "end" "I") ∈ LW := LW_in (List.mem_append_right _ (List.mem_append_left _ ((List.mem_of_getElem? (i := 174) (by decide +kernel))))) (by decide +kernel)
theorem m_137 : (Jvm.Cond.lays "SharedEchoes$Order" "SharedEchoes$Order" "whole" "Z") ∈ LW := LW_in (List.mem_append_right _ (List.mem_append_left _ ((List.mem_of_getElem? (i := 176) (by decide +kernel))))) (by decide +kernel)
theorem m_138 : (Jvm.Cond.classLink "SharedEchoes" (40 : Nat) "SharedEchoes$Fault") ∈ LW := LW_in (List.mem_append_right _ (List.mem_append_left _ ((List.mem_of_getElem? (i := 179) (by decide +kernel))))) (by decide +kernel)
theorem m_139 : (Jvm.Cond.instantiable "SharedEchoes$Fault" (4 : Nat)) ∈ LW := LW_in (List.mem_append_right _ (List.mem_append_left _ ((List.mem_of_getElem? (i := 180) (by decide +kernel))))) (by decide +kernel)
theorem m_140 : (Jvm.Cond.instanceMethod ({ cls := "SharedEchoes$Fault", name := "<init>", desc := "()V" } : Jvm.MethodName)) ∈ LW := LW_in (List.mem_append_right _ (List.mem_append_left _ ((List.mem_of_getElem? (i := 182) (by decide +kernel))))) (by decide +kernel)
theorem m_141 : (Jvm.Cond.code ({ cls := "SharedEchoes$Fault", name := "<init>", desc := "()V" } : Jvm.MethodName) prog_2_method_1_code (1 : Nat) (Option.none : Option Jvm.ClassFile.FieldType)) ∈ LW := LW_in (List.mem_append_right _ (List.mem_append_left _ ((List.mem_of_getElem? (i := 183) (by decide +kernel))))) (by decide +kernel)
theorem m_142 : (Jvm.Cond.methodLink "SharedEchoes$Fault" (1 : Nat) ({ cls := "java/lang/Object", name := "<init>", desc := "()V" } : Jvm.MethodName)) ∈ LW := LW_in (List.mem_append_right _ (List.mem_append_left _ ((List.mem_of_getElem? (i := 184) (by decide +kernel))))) (by decide +kernel)
theorem m_143 : (Jvm.Cond.fieldLink "SharedEchoes$Fault" (7 : Nat) "SharedEchoes$Fault" "there" "Z") ∈ LW := LW_in (List.mem_append_right _ (List.mem_append_left _ ((List.mem_of_getElem? (i := 185) (by decide +kernel))))) (by decide +kernel)
theorem m_144 : (Jvm.Cond.fieldLink "SharedEchoes" (234 : Nat) "SharedEchoes$Fault" "there" "Z") ∈ LW := LW_in (List.mem_append_right _ (List.mem_append_left _ ((List.mem_of_getElem? (i := 186) (by decide +kernel))))) (by decide +kernel)
theorem m_145 : (Jvm.Cond.fieldLink "SharedEchoes$Fault" (13 : Nat) "SharedEchoes$Fault" "position" "I") ∈ LW := LW_in (List.mem_append_right _ (List.mem_append_left _ ((List.mem_of_getElem? (i := 187) (by decide +kernel))))) (by decide +kernel)
theorem m_146 : (Jvm.Cond.fieldLink "SharedEchoes" (238 : Nat) "SharedEchoes$Fault" "position" "I") ∈ LW := LW_in (List.mem_append_right _ (List.mem_append_left _ ((List.mem_of_getElem? (i := 188) (by decide +kernel))))) (by decide +kernel)
theorem m_147 : (Jvm.Cond.fieldLink "SharedEchoes$Fault" (17 : Nat) "SharedEchoes$Fault" "reason" "I") ∈ LW := LW_in (List.mem_append_right _ (List.mem_append_left _ ((List.mem_of_getElem? (i := 189) (by decide +kernel))))) (by decide +kernel)
theorem m_148 : (Jvm.Cond.fieldLink "SharedEchoes" (241 : Nat) "SharedEchoes$Fault" "reason" "I") ∈ LW := LW_in (List.mem_append_right _ (List.mem_append_left _ ((List.mem_of_getElem? (i := 190) (by decide +kernel))))) (by decide +kernel)
theorem m_149 : (Jvm.Cond.fieldLink "SharedEchoes$Fault" (20 : Nat) "SharedEchoes$Fault" "cause" "I") ∈ LW := LW_in (List.mem_append_right _ (List.mem_append_left _ ((List.mem_of_getElem? (i := 191) (by decide +kernel))))) (by decide +kernel)
theorem m_150 : (Jvm.Cond.fieldLink "SharedEchoes" (244 : Nat) "SharedEchoes$Fault" "cause" "I") ∈ LW := LW_in (List.mem_append_right _ (List.mem_append_left _ ((List.mem_of_getElem? (i := 192) (by decide +kernel))))) (by decide +kernel)
theorem m_151 : (Jvm.Cond.lays "SharedEchoes$Fault" "SharedEchoes$Fault" "there" "Z") ∈ LW := LW_in (List.mem_append_right _ (List.mem_append_left _ ((List.mem_of_getElem? (i := 193) (by decide +kernel))))) (by decide +kernel)
theorem m_152 : (Jvm.Cond.lays "SharedEchoes$Fault" "SharedEchoes$Fault" "position" "I") ∈ LW := LW_in (List.mem_append_right _ (List.mem_append_left _ ((List.mem_of_getElem? (i := 195) (by decide +kernel))))) (by decide +kernel)
theorem m_153 : (Jvm.Cond.lays "SharedEchoes$Fault" "SharedEchoes$Fault" "reason" "I") ∈ LW := LW_in (List.mem_append_right _ (List.mem_append_left _ ((List.mem_of_getElem? (i := 197) (by decide +kernel))))) (by decide +kernel)
theorem m_154 : (Jvm.Cond.lays "SharedEchoes$Fault" "SharedEchoes$Fault" "cause" "I") ∈ LW := LW_in (List.mem_append_right _ (List.mem_append_left _ ((List.mem_of_getElem? (i := 199) (by decide +kernel))))) (by decide +kernel)
theorem m_155 : (Jvm.Cond.fieldLink "SharedEchoes" (10 : Nat) "SharedEchoes" "now" "LSharedEchoes$State;") ∈ LW := LW_in (List.mem_append_right _ (List.mem_append_left _ ((List.mem_of_getElem? (i := 202) (by decide +kernel))))) (by decide +kernel)
theorem m_156 : (Jvm.Cond.fieldLink "SharedEchoes" (16 : Nat) "SharedEchoes" "trial" "LSharedEchoes$State;") ∈ LW := LW_in (List.mem_append_right _ (List.mem_append_left _ ((List.mem_of_getElem? (i := 203) (by decide +kernel))))) (by decide +kernel)
theorem m_157 : (Jvm.Cond.fieldLink "SharedEchoes" (22 : Nat) "SharedEchoes" "history" "LSharedEchoes$History;") ∈ LW := LW_in (List.mem_append_right _ (List.mem_append_left _ ((List.mem_of_getElem? (i := 204) (by decide +kernel))))) (by decide +kernel)
theorem m_158 : (Jvm.Cond.fieldLink "SharedEchoes" (29 : Nat) "SharedEchoes" "text" "LSharedEchoes$Text;") ∈ LW := LW_in (List.mem_append_right _ (List.mem_append_left _ ((List.mem_of_getElem? (i := 205) (by decide +kernel))))) (by decide +kernel)
theorem m_159 : (Jvm.Cond.fieldLink "SharedEchoes" (36 : Nat) "SharedEchoes" "order" "LSharedEchoes$Order;") ∈ LW := LW_in (List.mem_append_right _ (List.mem_append_left _ ((List.mem_of_getElem? (i := 206) (by decide +kernel))))) (by decide +kernel)
theorem m_160 : (Jvm.Cond.fieldLink "SharedEchoes" (43 : Nat) "SharedEchoes" "found" "LSharedEchoes$Fault;") ∈ LW := LW_in (List.mem_append_right _ (List.mem_append_left _ ((List.mem_of_getElem? (i := 207) (by decide +kernel))))) (by decide +kernel)
theorem m_161 : (Jvm.Cond.laysFinal "SharedEchoes" "SharedEchoes" "now" "LSharedEchoes$State;") ∈ LW := LW_in (List.mem_append_right _ (List.mem_append_left _ ((List.mem_of_getElem? (i := 208) (by decide +kernel))))) (by decide +kernel)
theorem m_162 : (Jvm.Cond.laysFinal "SharedEchoes" "SharedEchoes" "trial" "LSharedEchoes$State;") ∈ LW := LW_in (List.mem_append_right _ (List.mem_append_left _ ((List.mem_of_getElem? (i := 210) (by decide +kernel))))) (by decide +kernel)
theorem m_163 : (Jvm.Cond.laysFinal "SharedEchoes" "SharedEchoes" "history" "LSharedEchoes$History;") ∈ LW := LW_in (List.mem_append_right _ (List.mem_append_left _ ((List.mem_of_getElem? (i := 212) (by decide +kernel))))) (by decide +kernel)
theorem m_164 : (Jvm.Cond.laysFinal "SharedEchoes" "SharedEchoes" "text" "LSharedEchoes$Text;") ∈ LW := LW_in (List.mem_append_right _ (List.mem_append_left _ ((List.mem_of_getElem? (i := 214) (by decide +kernel))))) (by decide +kernel)
theorem m_165 : (Jvm.Cond.laysFinal "SharedEchoes" "SharedEchoes" "order" "LSharedEchoes$Order;") ∈ LW := LW_in (List.mem_append_right _ (List.mem_append_left _ ((List.mem_of_getElem? (i := 216) (by decide +kernel))))) (by decide +kernel)
theorem m_166 : (Jvm.Cond.laysFinal "SharedEchoes" "SharedEchoes" "found" "LSharedEchoes$Fault;") ∈ LW := LW_in (List.mem_append_right _ (List.mem_append_left _ ((List.mem_of_getElem? (i := 218) (by decide +kernel))))) (by decide +kernel)
theorem m_167 : (Jvm.Cond.methodLink "SharedEchoesLaw" (13 : Nat) ({ cls := "SharedEchoes", name := "sample", desc := "(I)I" } : Jvm.MethodName)) ∈ LW := LW_in (List.mem_append_right _ (List.mem_append_left _ ((List.mem_of_getElem? (i := 221) (by decide +kernel))))) (by decide +kernel)
theorem m_168 : (Jvm.Cond.instanceMethod ({ cls := "SharedEchoes", name := "sample", desc := "(I)I" } : Jvm.MethodName)) ∈ LW := LW_in (List.mem_append_right _ (List.mem_append_left _ ((List.mem_of_getElem? (i := 222) (by decide +kernel))))) (by decide +kernel)
theorem m_169 : (Jvm.Cond.selects "SharedEchoes" ({ cls := "SharedEchoes", name := "sample", desc := "(I)I" } : Jvm.MethodName) ({ cls := "SharedEchoes", name := "sample", desc := "(I)I" } : Jvm.MethodName)) ∈ LW := LW_in (List.mem_append_right _ (List.mem_append_left _ ((List.mem_of_getElem? (i := 223) (by decide +kernel))))) (by decide +kernel)
theorem m_170 : (Jvm.Cond.code ({ cls := "SharedEchoes", name := "sample", desc := "(I)I" } : Jvm.MethodName) prog_1_method_2_code (3 : Nat) (Option.some Jvm.ClassFile.FieldType.int)) ∈ LW := LW_in (List.mem_append_right _ (List.mem_append_left _ ((List.mem_of_getElem? (i := 224) (by decide +kernel))))) (by decide +kernel)
theorem m_171 : (Jvm.Cond.methodLink "SharedEchoes" (47 : Nat) ({ cls := "SharedEchoes", name := "sampleError", desc := "(I)I" } : Jvm.MethodName)) ∈ LW := LW_in (List.mem_append_right _ (List.mem_append_left _ ((List.mem_of_getElem? (i := 225) (by decide +kernel))))) (by decide +kernel)
theorem m_172 : (Jvm.Cond.static ({ cls := "SharedEchoes", name := "sampleError", desc := "(I)I" } : Jvm.MethodName)) ∈ LW := LW_in (List.mem_append_right _ (List.mem_append_left _ ((List.mem_of_getElem? (i := 226) (by decide +kernel))))) (by decide +kernel)
theorem m_173 : (Jvm.Cond.code ({ cls := "SharedEchoes", name := "sampleError", desc := "(I)I" } : Jvm.MethodName) prog_1_method_29_code (1 : Nat) (Option.some Jvm.ClassFile.FieldType.int)) ∈ LW := LW_in (List.mem_append_right _ (List.mem_append_left _ ((List.mem_of_getElem? (i := 227) (by decide +kernel))))) (by decide +kernel)
theorem m_174 : (Jvm.Cond.methodLink "SharedEchoes" (178 : Nat) ({ cls := "SharedEchoes", name := "isSample", desc := "(I)Z" } : Jvm.MethodName)) ∈ LW := LW_in (List.mem_append_right _ (List.mem_append_left _ ((List.mem_of_getElem? (i := 228) (by decide +kernel))))) (by decide +kernel)
theorem m_175 : (Jvm.Cond.static ({ cls := "SharedEchoes", name := "isSample", desc := "(I)Z" } : Jvm.MethodName)) ∈ LW := LW_in (List.mem_append_right _ (List.mem_append_left _ ((List.mem_of_getElem? (i := 229) (by decide +kernel))))) (by decide +kernel)
theorem m_176 : (Jvm.Cond.code ({ cls := "SharedEchoes", name := "isSample", desc := "(I)Z" } : Jvm.MethodName) prog_1_method_27_code (1 : Nat) (Option.some Jvm.ClassFile.FieldType.boolean)) ∈ LW := LW_in (List.mem_append_right _ (List.mem_append_left _ ((List.mem_of_getElem? (i := 230) (by decide +kernel))))) (by decide +kernel)
theorem m_177 : (Jvm.Cond.methodLink "SharedEchoes" (140 : Nat) ({ cls := "SharedEchoes", name := "isWithin", desc := "(III)Z" } : Jvm.MethodName)) ∈ LW := LW_in (List.mem_append_right _ (List.mem_append_left _ ((List.mem_of_getElem? (i := 231) (by decide +kernel))))) (by decide +kernel)
theorem m_178 : (Jvm.Cond.static ({ cls := "SharedEchoes", name := "isWithin", desc := "(III)Z" } : Jvm.MethodName)) ∈ LW := LW_in (List.mem_append_right _ (List.mem_append_left _ ((List.mem_of_getElem? (i := 232) (by decide +kernel))))) (by decide +kernel)
theorem m_179 : (Jvm.Cond.code ({ cls := "SharedEchoes", name := "isWithin", desc := "(III)Z" } : Jvm.MethodName) prog_1_method_25_code (3 : Nat) (Option.some Jvm.ClassFile.FieldType.boolean)) ∈ LW := LW_in (List.mem_append_right _ (List.mem_append_left _ ((List.mem_of_getElem? (i := 233) (by decide +kernel))))) (by decide +kernel)
theorem m_180 : (Jvm.Cond.constant "SharedEchoes" (79 : Nat) (-1000001 : Int32)) ∈ LW := LW_in (List.mem_append_right _ (List.mem_append_left _ ((List.mem_of_getElem? (i := 234) (by decide +kernel))))) (by decide +kernel)
theorem m_181 : (Jvm.Cond.methodLink "SharedEchoes" (51 : Nat) ({ cls := "SharedEchoes$History", name := "keep", desc := "(LSharedEchoes$State;)V" } : Jvm.MethodName)) ∈ LW := LW_in (List.mem_append_right _ (List.mem_append_left _ ((List.mem_of_getElem? (i := 235) (by decide +kernel))))) (by decide +kernel)
theorem m_182 : (Jvm.Cond.instanceMethod ({ cls := "SharedEchoes$History", name := "keep", desc := "(LSharedEchoes$State;)V" } : Jvm.MethodName)) ∈ LW := LW_in (List.mem_append_right _ (List.mem_append_left _ ((List.mem_of_getElem? (i := 236) (by decide +kernel))))) (by decide +kernel)
theorem m_183 : (Jvm.Cond.selects "SharedEchoes$History" ({ cls := "SharedEchoes$History", name := "keep", desc := "(LSharedEchoes$State;)V" } : Jvm.MethodName) ({ cls := "SharedEchoes$History", name := "keep", desc := "(LSharedEchoes$State;)V" } : Jvm.MethodName)) ∈ LW := LW_in (List.mem_append_right _ (List.mem_append_left _ ((List.mem_of_getElem? (i := 237) (by decide +kernel))))) (by decide +kernel)
theorem m_184 : (Jvm.Cond.code ({ cls := "SharedEchoes$History", name := "keep", desc := "(LSharedEchoes$State;)V" } : Jvm.MethodName) prog_3_method_3_code (3 : Nat) (Option.none : Option Jvm.ClassFile.FieldType)) ∈ LW := LW_in (List.mem_append_right _ (List.mem_append_left _ ((List.mem_of_getElem? (i := 238) (by decide +kernel))))) (by decide +kernel)
theorem m_185 : (Jvm.Cond.methodLink "SharedEchoes$History" (31 : Nat) ({ cls := "SharedEchoes$History", name := "stateAt", desc := "(I)LSharedEchoes$State;" } : Jvm.MethodName)) ∈ LW := LW_in (List.mem_append_right _ (List.mem_append_left _ ((List.mem_of_getElem? (i := 239) (by decide +kernel))))) (by decide +kernel)
theorem m_186 : (Jvm.Cond.instanceMethod ({ cls := "SharedEchoes$History", name := "stateAt", desc := "(I)LSharedEchoes$State;" } : Jvm.MethodName)) ∈ LW := LW_in (List.mem_append_right _ (List.mem_append_right _ (List.mem_append_left _ ((List.mem_of_getElem? (i := 1) (by decide +kernel)))))) (by decide +kernel)
theorem m_187 : (Jvm.Cond.code ({ cls := "SharedEchoes$History", name := "stateAt", desc := "(I)LSharedEchoes$State;" } : Jvm.MethodName) prog_3_method_2_code (2 : Nat) (Option.some (Jvm.ClassFile.FieldType.object "SharedEchoes$State"))) ∈ LW := LW_in (List.mem_append_right _ (List.mem_append_right _ (List.mem_append_left _ ((List.mem_of_getElem? (i := 2) (by decide +kernel)))))) (by decide +kernel)
theorem m_188 : (Jvm.Cond.methodLink "SharedEchoes$History" (22 : Nat) ({ cls := "java/lang/Math", name := "floorMod", desc := "(II)I" } : Jvm.MethodName)) ∈ LW := LW_in (List.mem_append_right _ (List.mem_append_right _ (List.mem_append_left _ ((List.mem_of_getElem? (i := 3) (by decide +kernel)))))) (by decide +kernel)
theorem m_189 : (Jvm.Cond.static ({ cls := "java/lang/Math", name := "floorMod", desc := "(II)I" } : Jvm.MethodName)) ∈ LW := LW_in (List.mem_append_right _ (List.mem_append_right _ (List.mem_append_left _ ((List.mem_of_getElem? (i := 4) (by decide +kernel)))))) (by decide +kernel)
theorem m_190 : (Jvm.Cond.code ({ cls := "java/lang/Math", name := "floorMod", desc := "(II)I" } : Jvm.MethodName) prog_13_method_50_code (3 : Nat) (Option.some Jvm.ClassFile.FieldType.int)) ∈ LW := LW_in (List.mem_append_right _ (List.mem_append_right _ (List.mem_append_left _ ((List.mem_of_getElem? (i := 5) (by decide +kernel)))))) (by decide +kernel)
theorem m_191 : (Jvm.Cond.methodLink "SharedEchoes$History" (35 : Nat) ({ cls := "SharedEchoes$State", name := "takeOver", desc := "(LSharedEchoes$State;)V" } : Jvm.MethodName)) ∈ LW := LW_in (List.mem_append_right _ (List.mem_append_right _ (List.mem_append_left _ ((List.mem_of_getElem? (i := 6) (by decide +kernel)))))) (by decide +kernel)
theorem m_192 : (Jvm.Cond.instanceMethod ({ cls := "SharedEchoes$State", name := "takeOver", desc := "(LSharedEchoes$State;)V" } : Jvm.MethodName)) ∈ LW := LW_in (List.mem_append_right _ (List.mem_append_right _ (List.mem_append_left _ ((List.mem_of_getElem? (i := 7) (by decide +kernel)))))) (by decide +kernel)
theorem m_193 : (Jvm.Cond.selects "SharedEchoes$State" ({ cls := "SharedEchoes$State", name := "takeOver", desc := "(LSharedEchoes$State;)V" } : Jvm.MethodName) ({ cls := "SharedEchoes$State", name := "takeOver", desc := "(LSharedEchoes$State;)V" } : Jvm.MethodName)) ∈ LW := LW_in (List.mem_append_right _ (List.mem_append_right _ (List.mem_append_left _ ((List.mem_of_getElem? (i := 8) (by decide +kernel)))))) (by decide +kernel)
theorem m_194 : (Jvm.Cond.code ({ cls := "SharedEchoes$State", name := "takeOver", desc := "(LSharedEchoes$State;)V" } : Jvm.MethodName) prog_8_method_16_code (2 : Nat) (Option.none : Option Jvm.ClassFile.FieldType)) ∈ LW := LW_in (List.mem_append_right _ (List.mem_append_right _ (List.mem_append_left _ ((List.mem_of_getElem? (i := 9) (by decide +kernel)))))) (by decide +kernel)
theorem m_195 : (Jvm.Cond.methodLink "SharedEchoes$State" (101 : Nat) ({ cls := "SharedEchoes$Ring", name := "takeOver", desc := "(LSharedEchoes$Ring;)V" } : Jvm.MethodName)) ∈ LW := LW_in (List.mem_append_right _ (List.mem_append_right _ (List.mem_append_left _ ((List.mem_of_getElem? (i := 10) (by decide +kernel)))))) (by decide +kernel)
theorem m_196 : (Jvm.Cond.instanceMethod ({ cls := "SharedEchoes$Ring", name := "takeOver", desc := "(LSharedEchoes$Ring;)V" } : Jvm.MethodName)) ∈ LW := LW_in (List.mem_append_right _ (List.mem_append_right _ (List.mem_append_left _ ((List.mem_of_getElem? (i := 11) (by decide +kernel)))))) (by decide +kernel)
theorem m_197 : (Jvm.Cond.selects "SharedEchoes$Ring" ({ cls := "SharedEchoes$Ring", name := "takeOver", desc := "(LSharedEchoes$Ring;)V" } : Jvm.MethodName) ({ cls := "SharedEchoes$Ring", name := "takeOver", desc := "(LSharedEchoes$Ring;)V" } : Jvm.MethodName)) ∈ LW := LW_in (List.mem_append_right _ (List.mem_append_right _ (List.mem_append_left _ ((List.mem_of_getElem? (i := 12) (by decide +kernel)))))) (by decide +kernel)
theorem m_198 : (Jvm.Cond.code ({ cls := "SharedEchoes$Ring", name := "takeOver", desc := "(LSharedEchoes$Ring;)V" } : Jvm.MethodName) prog_7_method_9_code (2 : Nat) (Option.none : Option Jvm.ClassFile.FieldType)) ∈ LW := LW_in (List.mem_append_right _ (List.mem_append_right _ (List.mem_append_left _ ((List.mem_of_getElem? (i := 13) (by decide +kernel)))))) (by decide +kernel)
theorem m_199 : (Jvm.Cond.methodLink "SharedEchoes$Ring" (44 : Nat) ({ cls := "java/lang/System", name := "arraycopy", desc := "(Ljava/lang/Object;ILjava/lang/Object;II)V" } : Jvm.MethodName)) ∈ LW := LW_in (List.mem_append_right _ (List.mem_append_right _ (List.mem_append_left _ ((List.mem_of_getElem? (i := 14) (by decide +kernel)))))) (by decide +kernel)
theorem m_200 : (Jvm.Cond.static ({ cls := "java/lang/System", name := "arraycopy", desc := "(Ljava/lang/Object;ILjava/lang/Object;II)V" } : Jvm.MethodName)) ∈ LW := LW_in (List.mem_append_right _ (List.mem_append_right _ (List.mem_append_left _ ((List.mem_of_getElem? (i := 15) (by decide +kernel)))))) (by decide +kernel)
theorem m_201 : (Jvm.Cond.native ({ cls := "java/lang/System", name := "arraycopy", desc := "(Ljava/lang/Object;ILjava/lang/Object;II)V" } : Jvm.MethodName)) ∈ LW := LW_in (List.mem_append_right _ (List.mem_append_right _ (List.mem_append_left _ ((List.mem_of_getElem? (i := 16) (by decide +kernel)))))) (by decide +kernel)
theorem m_202 : (Jvm.Cond.methodLink "SharedEchoes$State" (105 : Nat) ({ cls := "SharedEchoes$Outputs", name := "takeOver", desc := "(LSharedEchoes$Outputs;)V" } : Jvm.MethodName)) ∈ LW := LW_in (List.mem_append_right _ (List.mem_append_right _ (List.mem_append_left _ ((List.mem_of_getElem? (i := 17) (by decide +kernel)))))) (by decide +kernel)
theorem m_203 : (Jvm.Cond.instanceMethod ({ cls := "SharedEchoes$Outputs", name := "takeOver", desc := "(LSharedEchoes$Outputs;)V" } : Jvm.MethodName)) ∈ LW := LW_in (List.mem_append_right _ (List.mem_append_right _ (List.mem_append_left _ ((List.mem_of_getElem? (i := 18) (by decide +kernel)))))) (by decide +kernel)
theorem m_204 : (Jvm.Cond.selects "SharedEchoes$Outputs" ({ cls := "SharedEchoes$Outputs", name := "takeOver", desc := "(LSharedEchoes$Outputs;)V" } : Jvm.MethodName) ({ cls := "SharedEchoes$Outputs", name := "takeOver", desc := "(LSharedEchoes$Outputs;)V" } : Jvm.MethodName)) ∈ LW := LW_in (List.mem_append_right _ (List.mem_append_right _ (List.mem_append_left _ ((List.mem_of_getElem? (i := 19) (by decide +kernel)))))) (by decide +kernel)
theorem m_205 : (Jvm.Cond.code ({ cls := "SharedEchoes$Outputs", name := "takeOver", desc := "(LSharedEchoes$Outputs;)V" } : Jvm.MethodName) prog_6_method_4_code (2 : Nat) (Option.none : Option Jvm.ClassFile.FieldType)) ∈ LW := LW_in (List.mem_append_right _ (List.mem_append_right _ (List.mem_append_left _ ((List.mem_of_getElem? (i := 20) (by decide +kernel)))))) (by decide +kernel)
theorem m_206 : (Jvm.Cond.methodLink "SharedEchoes$Outputs" (31 : Nat) ({ cls := "java/lang/System", name := "arraycopy", desc := "(Ljava/lang/Object;ILjava/lang/Object;II)V" } : Jvm.MethodName)) ∈ LW := LW_in (List.mem_append_right _ (List.mem_append_right _ (List.mem_append_left _ ((List.mem_of_getElem? (i := 21) (by decide +kernel)))))) (by decide +kernel)
theorem m_207 : (Jvm.Cond.methodLink "SharedEchoes$State" (108 : Nat) ({ cls := "SharedEchoes$Meters", name := "takeOver", desc := "(LSharedEchoes$Meters;)V" } : Jvm.MethodName)) ∈ LW := LW_in (List.mem_append_right _ (List.mem_append_right _ (List.mem_append_left _ ((List.mem_of_getElem? (i := 22) (by decide +kernel)))))) (by decide +kernel)
theorem m_208 : (Jvm.Cond.instanceMethod ({ cls := "SharedEchoes$Meters", name := "takeOver", desc := "(LSharedEchoes$Meters;)V" } : Jvm.MethodName)) ∈ LW := LW_in (List.mem_append_right _ (List.mem_append_right _ (List.mem_append_left _ ((List.mem_of_getElem? (i := 23) (by decide +kernel)))))) (by decide +kernel)
theorem m_209 : (Jvm.Cond.selects "SharedEchoes$Meters" ({ cls := "SharedEchoes$Meters", name := "takeOver", desc := "(LSharedEchoes$Meters;)V" } : Jvm.MethodName) ({ cls := "SharedEchoes$Meters", name := "takeOver", desc := "(LSharedEchoes$Meters;)V" } : Jvm.MethodName)) ∈ LW := LW_in (List.mem_append_right _ (List.mem_append_right _ (List.mem_append_left _ ((List.mem_of_getElem? (i := 24) (by decide +kernel)))))) (by decide +kernel)
theorem m_210 : (Jvm.Cond.code ({ cls := "SharedEchoes$Meters", name := "takeOver", desc := "(LSharedEchoes$Meters;)V" } : Jvm.MethodName) prog_4_method_6_code (2 : Nat) (Option.none : Option Jvm.ClassFile.FieldType)) ∈ LW := LW_in (List.mem_append_right _ (List.mem_append_right _ (List.mem_append_left _ ((List.mem_of_getElem? (i := 25) (by decide +kernel)))))) (by decide +kernel)
theorem m_211 : (Jvm.Cond.methodLink "SharedEchoes$State" (111 : Nat) ({ cls := "java/lang/System", name := "arraycopy", desc := "(Ljava/lang/Object;ILjava/lang/Object;II)V" } : Jvm.MethodName)) ∈ LW := LW_in (List.mem_append_right _ (List.mem_append_right _ (List.mem_append_left _ ((List.mem_of_getElem? (i := 26) (by decide +kernel)))))) (by decide +kernel)
theorem m_212 : (Jvm.Cond.methodLink "SharedEchoes" (55 : Nat) ({ cls := "SharedEchoes$State", name := "letThrough", desc := "(I)I" } : Jvm.MethodName)) ∈ LW := LW_in (List.mem_append_right _ (List.mem_append_right _ (List.mem_append_left _ ((List.mem_of_getElem? (i := 27) (by decide +kernel)))))) (by decide +kernel)
theorem m_213 : (Jvm.Cond.instanceMethod ({ cls := "SharedEchoes$State", name := "letThrough", desc := "(I)I" } : Jvm.MethodName)) ∈ LW := LW_in (List.mem_append_right _ (List.mem_append_right _ (List.mem_append_left _ ((List.mem_of_getElem? (i := 28) (by decide +kernel)))))) (by decide +kernel)
theorem m_214 : (Jvm.Cond.selects "SharedEchoes$State" ({ cls := "SharedEchoes$State", name := "letThrough", desc := "(I)I" } : Jvm.MethodName) ({ cls := "SharedEchoes$State", name := "letThrough", desc := "(I)I" } : Jvm.MethodName)) ∈ LW := LW_in (List.mem_append_right _ (List.mem_append_right _ (List.mem_append_left _ ((List.mem_of_getElem? (i := 29) (by decide +kernel)))))) (by decide +kernel)
theorem m_215 : (Jvm.Cond.code ({ cls := "SharedEchoes$State", name := "letThrough", desc := "(I)I" } : Jvm.MethodName) prog_8_method_10_code (6 : Nat) (Option.some Jvm.ClassFile.FieldType.int)) ∈ LW := LW_in (List.mem_append_right _ (List.mem_append_right _ (List.mem_append_left _ ((List.mem_of_getElem? (i := 30) (by decide +kernel)))))) (by decide +kernel)
theorem m_216 : (Jvm.Cond.methodLink "SharedEchoes$State" (64 : Nat) ({ cls := "SharedEchoes$State", name := "shareOf", desc := "(I)I" } : Jvm.MethodName)) ∈ LW := LW_in (List.mem_append_right _ (List.mem_append_right _ (List.mem_append_left _ ((List.mem_of_getElem? (i := 31) (by decide +kernel)))))) (by decide +kernel)
theorem m_217 : (Jvm.Cond.instanceMethod ({ cls := "SharedEchoes$State", name := "shareOf", desc := "(I)I" } : Jvm.MethodName)) ∈ LW := LW_in (List.mem_append_right _ (List.mem_append_right _ (List.mem_append_left _ ((List.mem_of_getElem? (i := 32) (by decide +kernel)))))) (by decide +kernel)
theorem m_218 : (Jvm.Cond.selects "SharedEchoes$State" ({ cls := "SharedEchoes$State", name := "shareOf", desc := "(I)I" } : Jvm.MethodName) ({ cls := "SharedEchoes$State", name := "shareOf", desc := "(I)I" } : Jvm.MethodName)) ∈ LW := LW_in (List.mem_append_right _ (List.mem_append_right _ (List.mem_append_left _ ((List.mem_of_getElem? (i := 33) (by decide +kernel)))))) (by decide +kernel)
theorem m_219 : (Jvm.Cond.code ({ cls := "SharedEchoes$State", name := "shareOf", desc := "(I)I" } : Jvm.MethodName) prog_8_method_9_code (2 : Nat) (Option.some Jvm.ClassFile.FieldType.int)) ∈ LW := LW_in (List.mem_append_right _ (List.mem_append_right _ (List.mem_append_left _ ((List.mem_of_getElem? (i := 34) (by decide +kernel)))))) (by decide +kernel)
theorem m_220 : (Jvm.Cond.methodLink "SharedEchoes$State" (43 : Nat) ({ cls := "SharedEchoes$State", name := "isRow", desc := "(I)Z" } : Jvm.MethodName)) ∈ LW := LW_in (List.mem_append_right _ (List.mem_append_right _ (List.mem_append_left _ ((List.mem_of_getElem? (i := 35) (by decide +kernel)))))) (by decide +kernel)
theorem m_221 : (Jvm.Cond.static ({ cls := "SharedEchoes$State", name := "isRow", desc := "(I)Z" } : Jvm.MethodName)) ∈ LW := LW_in (List.mem_append_right _ (List.mem_append_right _ (List.mem_append_left _ ((List.mem_of_getElem? (i := 36) (by decide +kernel)))))) (by decide +kernel)
theorem m_222 : (Jvm.Cond.code ({ cls := "SharedEchoes$State", name := "isRow", desc := "(I)Z" } : Jvm.MethodName) prog_8_method_2_code (1 : Nat) (Option.some Jvm.ClassFile.FieldType.boolean)) ∈ LW := LW_in (List.mem_append_right _ (List.mem_append_right _ (List.mem_append_left _ ((List.mem_of_getElem? (i := 37) (by decide +kernel)))))) (by decide +kernel)
theorem m_223 : (Jvm.Cond.methodLink "SharedEchoes$State" (57 : Nat) ({ cls := "SharedEchoes$State", name := "readingOf", desc := "(I)I" } : Jvm.MethodName)) ∈ LW := LW_in (List.mem_append_right _ (List.mem_append_right _ (List.mem_append_left _ ((List.mem_of_getElem? (i := 38) (by decide +kernel)))))) (by decide +kernel)
theorem m_224 : (Jvm.Cond.instanceMethod ({ cls := "SharedEchoes$State", name := "readingOf", desc := "(I)I" } : Jvm.MethodName)) ∈ LW := LW_in (List.mem_append_right _ (List.mem_append_right _ (List.mem_append_left _ ((List.mem_of_getElem? (i := 39) (by decide +kernel)))))) (by decide +kernel)
theorem m_225 : (Jvm.Cond.selects "SharedEchoes$State" ({ cls := "SharedEchoes$State", name := "readingOf", desc := "(I)I" } : Jvm.MethodName) ({ cls := "SharedEchoes$State", name := "readingOf", desc := "(I)I" } : Jvm.MethodName)) ∈ LW := LW_in (List.mem_append_right _ (List.mem_append_right _ (List.mem_append_left _ ((List.mem_of_getElem? (i := 40) (by decide +kernel)))))) (by decide +kernel)
theorem m_226 : (Jvm.Cond.code ({ cls := "SharedEchoes$State", name := "readingOf", desc := "(I)I" } : Jvm.MethodName) prog_8_method_8_code (2 : Nat) (Option.some Jvm.ClassFile.FieldType.int)) ∈ LW := LW_in (List.mem_append_right _ (List.mem_append_right _ (List.mem_append_left _ ((List.mem_of_getElem? (i := 41) (by decide +kernel)))))) (by decide +kernel)
theorem m_227 : (Jvm.Cond.methodLink "SharedEchoes$State" (54 : Nat) ({ cls := "SharedEchoes$Ring", name := "wordAt", desc := "(I)I" } : Jvm.MethodName)) ∈ LW := LW_in (List.mem_append_right _ (List.mem_append_right _ (List.mem_append_left _ ((List.mem_of_getElem? (i := 42) (by decide +kernel)))))) (by decide +kernel)
theorem m_228 : (Jvm.Cond.instanceMethod ({ cls := "SharedEchoes$Ring", name := "wordAt", desc := "(I)I" } : Jvm.MethodName)) ∈ LW := LW_in (List.mem_append_right _ (List.mem_append_right _ (List.mem_append_left _ ((List.mem_of_getElem? (i := 43) (by decide +kernel)))))) (by decide +kernel)
theorem m_229 : (Jvm.Cond.selects "SharedEchoes$Ring" ({ cls := "SharedEchoes$Ring", name := "wordAt", desc := "(I)I" } : Jvm.MethodName) ({ cls := "SharedEchoes$Ring", name := "wordAt", desc := "(I)I" } : Jvm.MethodName)) ∈ LW := LW_in (List.mem_append_right _ (List.mem_append_right _ (List.mem_append_left _ ((List.mem_of_getElem? (i := 44) (by decide +kernel)))))) (by decide +kernel)
theorem m_230 : (Jvm.Cond.code ({ cls := "SharedEchoes$Ring", name := "wordAt", desc := "(I)I" } : Jvm.MethodName) prog_7_method_2_code (2 : Nat) (Option.some Jvm.ClassFile.FieldType.int)) ∈ LW := LW_in (List.mem_append_right _ (List.mem_append_right _ (List.mem_append_left _ ((List.mem_of_getElem? (i := 45) (by decide +kernel)))))) (by decide +kernel)
theorem m_231 : (Jvm.Cond.static ({ cls := "SharedEchoes", name := "thousandths", desc := "(II)I" } : Jvm.MethodName)) ∈ LW := LW_in (List.mem_append_right _ (List.mem_append_right _ (List.mem_append_left _ ((List.mem_of_getElem? (i := 47) (by decide +kernel)))))) (by decide +kernel)
theorem m_232 : (Jvm.Cond.code ({ cls := "SharedEchoes", name := "thousandths", desc := "(II)I" } : Jvm.MethodName) prog_1_method_35_code (2 : Nat) (Option.some Jvm.ClassFile.FieldType.int)) ∈ LW := LW_in (List.mem_append_right _ (List.mem_append_right _ (List.mem_append_left _ ((List.mem_of_getElem? (i := 48) (by decide +kernel)))))) (by decide +kernel)
theorem m_233 : (Jvm.Cond.static ({ cls := "SharedEchoes", name := "shaped", desc := "(III)I" } : Jvm.MethodName)) ∈ LW := LW_in (List.mem_append_right _ (List.mem_append_right _ (List.mem_append_left _ ((List.mem_of_getElem? (i := 50) (by decide +kernel)))))) (by decide +kernel)
theorem m_234 : (Jvm.Cond.code ({ cls := "SharedEchoes", name := "shaped", desc := "(III)I" } : Jvm.MethodName) prog_1_method_36_code (6 : Nat) (Option.some Jvm.ClassFile.FieldType.int)) ∈ LW := LW_in (List.mem_append_right _ (List.mem_append_right _ (List.mem_append_left _ ((List.mem_of_getElem? (i := 51) (by decide +kernel)))))) (by decide +kernel)
theorem m_235 : (Jvm.Cond.methodLink "SharedEchoes" (193 : Nat) ({ cls := "java/lang/Math", name := "abs", desc := "(I)I" } : Jvm.MethodName)) ∈ LW := LW_in (List.mem_append_right _ (List.mem_append_right _ (List.mem_append_left _ ((List.mem_of_getElem? (i := 52) (by decide +kernel)))))) (by decide +kernel)
theorem m_236 : (Jvm.Cond.static ({ cls := "java/lang/Math", name := "abs", desc := "(I)I" } : Jvm.MethodName)) ∈ LW := LW_in (List.mem_append_right _ (List.mem_append_right _ (List.mem_append_left _ ((List.mem_of_getElem? (i := 53) (by decide +kernel)))))) (by decide +kernel)
theorem m_237 : (Jvm.Cond.code ({ cls := "java/lang/Math", name := "abs", desc := "(I)I" } : Jvm.MethodName) prog_13_method_59_code (1 : Nat) (Option.some Jvm.ClassFile.FieldType.int)) ∈ LW := LW_in (List.mem_append_right _ (List.mem_append_right _ (List.mem_append_left _ ((List.mem_of_getElem? (i := 54) (by decide +kernel)))))) (by decide +kernel)
theorem m_238 : (Jvm.Cond.methodLink "SharedEchoes" (257 : Nat) ({ cls := "java/lang/Math", name := "min", desc := "(II)I" } : Jvm.MethodName)) ∈ LW := LW_in (List.mem_append_right _ (List.mem_append_right _ (List.mem_append_left _ ((List.mem_of_getElem? (i := 55) (by decide +kernel)))))) (by decide +kernel)
theorem m_239 : (Jvm.Cond.static ({ cls := "java/lang/Math", name := "min", desc := "(II)I" } : Jvm.MethodName)) ∈ LW := LW_in (List.mem_append_right _ (List.mem_append_right _ (List.mem_append_left _ ((List.mem_of_getElem? (i := 56) (by decide +kernel)))))) (by decide +kernel)
theorem m_240 : (Jvm.Cond.code ({ cls := "java/lang/Math", name := "min", desc := "(II)I" } : Jvm.MethodName) prog_13_method_69_code (2 : Nat) (Option.some Jvm.ClassFile.FieldType.int)) ∈ LW := LW_in (List.mem_append_right _ (List.mem_append_right _ (List.mem_append_left _ ((List.mem_of_getElem? (i := 57) (by decide +kernel)))))) (by decide +kernel)
theorem m_241 : (Jvm.Cond.methodLink "SharedEchoes$State" (74 : Nat) ({ cls := "SharedEchoes$Ring", name := "write", desc := "(I)V" } : Jvm.MethodName)) ∈ LW := LW_in (List.mem_append_right _ (List.mem_append_right _ (List.mem_append_left _ ((List.mem_of_getElem? (i := 58) (by decide +kernel)))))) (by decide +kernel)
theorem m_242 : (Jvm.Cond.instanceMethod ({ cls := "SharedEchoes$Ring", name := "write", desc := "(I)V" } : Jvm.MethodName)) ∈ LW := LW_in (List.mem_append_right _ (List.mem_append_right _ (List.mem_append_left _ ((List.mem_of_getElem? (i := 59) (by decide +kernel)))))) (by decide +kernel)
theorem m_243 : (Jvm.Cond.selects "SharedEchoes$Ring" ({ cls := "SharedEchoes$Ring", name := "write", desc := "(I)V" } : Jvm.MethodName) ({ cls := "SharedEchoes$Ring", name := "write", desc := "(I)V" } : Jvm.MethodName)) ∈ LW := LW_in (List.mem_append_right _ (List.mem_append_right _ (List.mem_append_left _ ((List.mem_of_getElem? (i := 60) (by decide +kernel)))))) (by decide +kernel)
theorem m_244 : (Jvm.Cond.code ({ cls := "SharedEchoes$Ring", name := "write", desc := "(I)V" } : Jvm.MethodName) prog_7_method_3_code (2 : Nat) (Option.none : Option Jvm.ClassFile.FieldType)) ∈ LW := LW_in (List.mem_append_right _ (List.mem_append_right _ (List.mem_append_left _ ((List.mem_of_getElem? (i := 61) (by decide +kernel)))))) (by decide +kernel)
theorem m_245 : (Jvm.Cond.methodLink "SharedEchoes$State" (78 : Nat) ({ cls := "SharedEchoes$Outputs", name := "add", desc := "(I)V" } : Jvm.MethodName)) ∈ LW := LW_in (List.mem_append_right _ (List.mem_append_right _ (List.mem_append_left _ ((List.mem_of_getElem? (i := 62) (by decide +kernel)))))) (by decide +kernel)
theorem m_246 : (Jvm.Cond.instanceMethod ({ cls := "SharedEchoes$Outputs", name := "add", desc := "(I)V" } : Jvm.MethodName)) ∈ LW := LW_in (List.mem_append_right _ (List.mem_append_right _ (List.mem_append_left _ ((List.mem_of_getElem? (i := 63) (by decide +kernel)))))) (by decide +kernel)
theorem m_247 : (Jvm.Cond.selects "SharedEchoes$Outputs" ({ cls := "SharedEchoes$Outputs", name := "add", desc := "(I)V" } : Jvm.MethodName) ({ cls := "SharedEchoes$Outputs", name := "add", desc := "(I)V" } : Jvm.MethodName)) ∈ LW := LW_in (List.mem_append_right _ (List.mem_append_right _ (List.mem_append_left _ ((List.mem_of_getElem? (i := 64) (by decide +kernel)))))) (by decide +kernel)
theorem m_248 : (Jvm.Cond.code ({ cls := "SharedEchoes$Outputs", name := "add", desc := "(I)V" } : Jvm.MethodName) prog_6_method_2_code (2 : Nat) (Option.none : Option Jvm.ClassFile.FieldType)) ∈ LW := LW_in (List.mem_append_right _ (List.mem_append_right _ (List.mem_append_left _ ((List.mem_of_getElem? (i := 65) (by decide +kernel)))))) (by decide +kernel)
theorem m_249 : (Jvm.Cond.methodLink "SharedEchoes$Outputs" (22 : Nat) ({ cls := "java/lang/Math", name := "min", desc := "(II)I" } : Jvm.MethodName)) ∈ LW := LW_in (List.mem_append_right _ (List.mem_append_right _ (List.mem_append_left _ ((List.mem_of_getElem? (i := 66) (by decide +kernel)))))) (by decide +kernel)
theorem m_250 : (Jvm.Cond.methodLink "SharedEchoes$State" (81 : Nat) ({ cls := "SharedEchoes$Meters", name := "add", desc := "(IZZ)V" } : Jvm.MethodName)) ∈ LW := LW_in (List.mem_append_right _ (List.mem_append_right _ (List.mem_append_left _ ((List.mem_of_getElem? (i := 67) (by decide +kernel)))))) (by decide +kernel)
theorem m_251 : (Jvm.Cond.instanceMethod ({ cls := "SharedEchoes$Meters", name := "add", desc := "(IZZ)V" } : Jvm.MethodName)) ∈ LW := LW_in (List.mem_append_right _ (List.mem_append_right _ (List.mem_append_left _ ((List.mem_of_getElem? (i := 68) (by decide +kernel)))))) (by decide +kernel)
theorem m_252 : (Jvm.Cond.selects "SharedEchoes$Meters" ({ cls := "SharedEchoes$Meters", name := "add", desc := "(IZZ)V" } : Jvm.MethodName) ({ cls := "SharedEchoes$Meters", name := "add", desc := "(IZZ)V" } : Jvm.MethodName)) ∈ LW := LW_in (List.mem_append_right _ (List.mem_append_right _ (List.mem_append_left _ ((List.mem_of_getElem? (i := 69) (by decide +kernel)))))) (by decide +kernel)
theorem m_253 : (Jvm.Cond.code ({ cls := "SharedEchoes$Meters", name := "add", desc := "(IZZ)V" } : Jvm.MethodName) prog_4_method_2_code (5 : Nat) (Option.none : Option Jvm.ClassFile.FieldType)) ∈ LW := LW_in (List.mem_append_right _ (List.mem_append_right _ (List.mem_append_left _ ((List.mem_of_getElem? (i := 70) (by decide +kernel)))))) (by decide +kernel)
theorem m_254 : (Jvm.Cond.methodLink "SharedEchoes$Meters" (7 : Nat) ({ cls := "java/lang/Math", name := "abs", desc := "(I)I" } : Jvm.MethodName)) ∈ LW := LW_in (List.mem_append_right _ (List.mem_append_right _ (List.mem_append_left _ ((List.mem_of_getElem? (i := 71) (by decide +kernel)))))) (by decide +kernel)
theorem m_255 : (Jvm.Cond.methodLink "SharedEchoes$Meters" (26 : Nat) ({ cls := "java/lang/Math", name := "max", desc := "(II)I" } : Jvm.MethodName)) ∈ LW := LW_in (List.mem_append_right _ (List.mem_append_right _ (List.mem_append_left _ ((List.mem_of_getElem? (i := 72) (by decide +kernel)))))) (by decide +kernel)
theorem m_256 : (Jvm.Cond.static ({ cls := "java/lang/Math", name := "max", desc := "(II)I" } : Jvm.MethodName)) ∈ LW := LW_in (List.mem_append_right _ (List.mem_append_right _ (List.mem_append_left _ ((List.mem_of_getElem? (i := 73) (by decide +kernel)))))) (by decide +kernel)
theorem m_257 : (Jvm.Cond.code ({ cls := "java/lang/Math", name := "max", desc := "(II)I" } : Jvm.MethodName) prog_13_method_65_code (2 : Nat) (Option.some Jvm.ClassFile.FieldType.int)) ∈ LW := LW_in (List.mem_append_right _ (List.mem_append_right _ (List.mem_append_left _ ((List.mem_of_getElem? (i := 74) (by decide +kernel)))))) (by decide +kernel)
theorem m_258 : (Jvm.Cond.methodLink "SharedEchoesLaw" (18 : Nat) ({ cls := "SharedEchoes", name := "silence", desc := "(I)I" } : Jvm.MethodName)) ∈ LW := LW_in (List.mem_append_right _ (List.mem_append_right _ (List.mem_append_left _ ((List.mem_of_getElem? (i := 75) (by decide +kernel)))))) (by decide +kernel)
theorem m_259 : (Jvm.Cond.instanceMethod ({ cls := "SharedEchoes", name := "silence", desc := "(I)I" } : Jvm.MethodName)) ∈ LW := LW_in (List.mem_append_right _ (List.mem_append_right _ (List.mem_append_left _ ((List.mem_of_getElem? (i := 76) (by decide +kernel)))))) (by decide +kernel)
theorem m_260 : (Jvm.Cond.selects "SharedEchoes" ({ cls := "SharedEchoes", name := "silence", desc := "(I)I" } : Jvm.MethodName) ({ cls := "SharedEchoes", name := "silence", desc := "(I)I" } : Jvm.MethodName)) ∈ LW := LW_in (List.mem_append_right _ (List.mem_append_right _ (List.mem_append_left _ ((List.mem_of_getElem? (i := 77) (by decide +kernel)))))) (by decide +kernel)
theorem m_261 : (Jvm.Cond.code ({ cls := "SharedEchoes", name := "silence", desc := "(I)I" } : Jvm.MethodName) prog_1_method_3_code (3 : Nat) (Option.some Jvm.ClassFile.FieldType.int)) ∈ LW := LW_in (List.mem_append_right _ (List.mem_append_right _ (List.mem_append_left _ ((List.mem_of_getElem? (i := 78) (by decide +kernel)))))) (by decide +kernel)
theorem m_262 : (Jvm.Cond.methodLink "SharedEchoes" (58 : Nat) ({ cls := "SharedEchoes", name := "silenceError", desc := "(I)I" } : Jvm.MethodName)) ∈ LW := LW_in (List.mem_append_right _ (List.mem_append_right _ (List.mem_append_left _ ((List.mem_of_getElem? (i := 79) (by decide +kernel)))))) (by decide +kernel)
theorem m_263 : (Jvm.Cond.static ({ cls := "SharedEchoes", name := "silenceError", desc := "(I)I" } : Jvm.MethodName)) ∈ LW := LW_in (List.mem_append_right _ (List.mem_append_right _ (List.mem_append_left _ ((List.mem_of_getElem? (i := 80) (by decide +kernel)))))) (by decide +kernel)
theorem m_264 : (Jvm.Cond.code ({ cls := "SharedEchoes", name := "silenceError", desc := "(I)I" } : Jvm.MethodName) prog_1_method_30_code (1 : Nat) (Option.some Jvm.ClassFile.FieldType.int)) ∈ LW := LW_in (List.mem_append_right _ (List.mem_append_right _ (List.mem_append_left _ ((List.mem_of_getElem? (i := 81) (by decide +kernel)))))) (by decide +kernel)
theorem m_265 : (Jvm.Cond.methodLink "SharedEchoes" (61 : Nat) ({ cls := "SharedEchoes$State", name := "letSilenceThrough", desc := "(I)I" } : Jvm.MethodName)) ∈ LW := LW_in (List.mem_append_right _ (List.mem_append_right _ (List.mem_append_left _ ((List.mem_of_getElem? (i := 82) (by decide +kernel)))))) (by decide +kernel)
theorem m_266 : (Jvm.Cond.instanceMethod ({ cls := "SharedEchoes$State", name := "letSilenceThrough", desc := "(I)I" } : Jvm.MethodName)) ∈ LW := LW_in (List.mem_append_right _ (List.mem_append_right _ (List.mem_append_left _ ((List.mem_of_getElem? (i := 83) (by decide +kernel)))))) (by decide +kernel)
theorem m_267 : (Jvm.Cond.selects "SharedEchoes$State" ({ cls := "SharedEchoes$State", name := "letSilenceThrough", desc := "(I)I" } : Jvm.MethodName) ({ cls := "SharedEchoes$State", name := "letSilenceThrough", desc := "(I)I" } : Jvm.MethodName)) ∈ LW := LW_in (List.mem_append_right _ (List.mem_append_right _ (List.mem_append_left _ ((List.mem_of_getElem? (i := 84) (by decide +kernel)))))) (by decide +kernel)
theorem m_268 : (Jvm.Cond.code ({ cls := "SharedEchoes$State", name := "letSilenceThrough", desc := "(I)I" } : Jvm.MethodName) prog_8_method_11_code (4 : Nat) (Option.some Jvm.ClassFile.FieldType.int)) ∈ LW := LW_in (List.mem_append_right _ (List.mem_append_right _ (List.mem_append_left _ ((List.mem_of_getElem? (i := 85) (by decide +kernel)))))) (by decide +kernel)
theorem m_269 : (Jvm.Cond.methodLink "SharedEchoes$State" (84 : Nat) ({ cls := "SharedEchoes$State", name := "letThrough", desc := "(I)I" } : Jvm.MethodName)) ∈ LW := LW_in (List.mem_append_right _ (List.mem_append_right _ (List.mem_append_left _ ((List.mem_of_getElem? (i := 86) (by decide +kernel)))))) (by decide +kernel)
theorem m_270 : (Jvm.Cond.methodLink "SharedEchoes$State" (87 : Nat) ({ cls := "java/lang/Math", name := "abs", desc := "(I)I" } : Jvm.MethodName)) ∈ LW := LW_in (List.mem_append_right _ (List.mem_append_right _ (List.mem_append_left _ ((List.mem_of_getElem? (i := 87) (by decide +kernel)))))) (by decide +kernel)
theorem m_271 : (Jvm.Cond.methodLink "SharedEchoes$State" (92 : Nat) ({ cls := "java/lang/Math", name := "max", desc := "(II)I" } : Jvm.MethodName)) ∈ LW := LW_in (List.mem_append_right _ (List.mem_append_right _ (List.mem_append_left _ ((List.mem_of_getElem? (i := 88) (by decide +kernel)))))) (by decide +kernel)
theorem m_272 : (Jvm.Cond.methodLink "SharedEchoesLaw" (22 : Nat) ({ cls := "SharedEchoes", name := "tap", desc := "(III)I" } : Jvm.MethodName)) ∈ LW := LW_in (List.mem_append_right _ (List.mem_append_right _ (List.mem_append_left _ ((List.mem_of_getElem? (i := 89) (by decide +kernel)))))) (by decide +kernel)
theorem m_273 : (Jvm.Cond.instanceMethod ({ cls := "SharedEchoes", name := "tap", desc := "(III)I" } : Jvm.MethodName)) ∈ LW := LW_in (List.mem_append_right _ (List.mem_append_right _ (List.mem_append_left _ ((List.mem_of_getElem? (i := 90) (by decide +kernel)))))) (by decide +kernel)
theorem m_274 : (Jvm.Cond.selects "SharedEchoes" ({ cls := "SharedEchoes", name := "tap", desc := "(III)I" } : Jvm.MethodName) ({ cls := "SharedEchoes", name := "tap", desc := "(III)I" } : Jvm.MethodName)) ∈ LW := LW_in (List.mem_append_right _ (List.mem_append_right _ (List.mem_append_left _ ((List.mem_of_getElem? (i := 91) (by decide +kernel)))))) (by decide +kernel)
theorem m_275 : (Jvm.Cond.code ({ cls := "SharedEchoes", name := "tap", desc := "(III)I" } : Jvm.MethodName) prog_1_method_4_code (5 : Nat) (Option.some Jvm.ClassFile.FieldType.int)) ∈ LW := LW_in (List.mem_append_right _ (List.mem_append_right _ (List.mem_append_left _ ((List.mem_of_getElem? (i := 92) (by decide +kernel)))))) (by decide +kernel)
theorem m_276 : (Jvm.Cond.methodLink "SharedEchoes" (64 : Nat) ({ cls := "SharedEchoes", name := "tapError", desc := "(III)I" } : Jvm.MethodName)) ∈ LW := LW_in (List.mem_append_right _ (List.mem_append_right _ (List.mem_append_left _ ((List.mem_of_getElem? (i := 93) (by decide +kernel)))))) (by decide +kernel)
theorem m_277 : (Jvm.Cond.static ({ cls := "SharedEchoes", name := "tapError", desc := "(III)I" } : Jvm.MethodName)) ∈ LW := LW_in (List.mem_append_right _ (List.mem_append_right _ (List.mem_append_left _ ((List.mem_of_getElem? (i := 94) (by decide +kernel)))))) (by decide +kernel)
theorem m_278 : (Jvm.Cond.code ({ cls := "SharedEchoes", name := "tapError", desc := "(III)I" } : Jvm.MethodName) prog_1_method_31_code (4 : Nat) (Option.some Jvm.ClassFile.FieldType.int)) ∈ LW := LW_in (List.mem_append_right _ (List.mem_append_right _ (List.mem_append_left _ ((List.mem_of_getElem? (i := 95) (by decide +kernel)))))) (by decide +kernel)
theorem m_279 : (Jvm.Cond.methodLink "SharedEchoes" (76 : Nat) ({ cls := "SharedEchoes", name := "isTap", desc := "(I)Z" } : Jvm.MethodName)) ∈ LW := LW_in (List.mem_append_right _ (List.mem_append_right _ (List.mem_append_left _ ((List.mem_of_getElem? (i := 96) (by decide +kernel)))))) (by decide +kernel)
theorem m_280 : (Jvm.Cond.static ({ cls := "SharedEchoes", name := "isTap", desc := "(I)Z" } : Jvm.MethodName)) ∈ LW := LW_in (List.mem_append_right _ (List.mem_append_right _ (List.mem_append_left _ ((List.mem_of_getElem? (i := 97) (by decide +kernel)))))) (by decide +kernel)
theorem m_281 : (Jvm.Cond.code ({ cls := "SharedEchoes", name := "isTap", desc := "(I)Z" } : Jvm.MethodName) prog_1_method_26_code (1 : Nat) (Option.some Jvm.ClassFile.FieldType.boolean)) ∈ LW := LW_in (List.mem_append_right _ (List.mem_append_right _ (List.mem_append_left _ ((List.mem_of_getElem? (i := 98) (by decide +kernel)))))) (by decide +kernel)
theorem m_282 : (Jvm.Cond.methodLink "SharedEchoes" (68 : Nat) ({ cls := "SharedEchoes$State", name := "putRow", desc := "(III)V" } : Jvm.MethodName)) ∈ LW := LW_in (List.mem_append_right _ (List.mem_append_right _ (List.mem_append_left _ ((List.mem_of_getElem? (i := 99) (by decide +kernel)))))) (by decide +kernel)
theorem m_283 : (Jvm.Cond.instanceMethod ({ cls := "SharedEchoes$State", name := "putRow", desc := "(III)V" } : Jvm.MethodName)) ∈ LW := LW_in (List.mem_append_right _ (List.mem_append_right _ (List.mem_append_left _ ((List.mem_of_getElem? (i := 100) (by decide +kernel)))))) (by decide +kernel)
theorem m_284 : (Jvm.Cond.selects "SharedEchoes$State" ({ cls := "SharedEchoes$State", name := "putRow", desc := "(III)V" } : Jvm.MethodName) ({ cls := "SharedEchoes$State", name := "putRow", desc := "(III)V" } : Jvm.MethodName)) ∈ LW := LW_in (List.mem_append_right _ (List.mem_append_right _ (List.mem_append_left _ ((List.mem_of_getElem? (i := 101) (by decide +kernel)))))) (by decide +kernel)
theorem m_285 : (Jvm.Cond.code ({ cls := "SharedEchoes$State", name := "putRow", desc := "(III)V" } : Jvm.MethodName) prog_8_method_5_code (4 : Nat) (Option.none : Option Jvm.ClassFile.FieldType)) ∈ LW := LW_in (List.mem_append_right _ (List.mem_append_right _ (List.mem_append_left _ ((List.mem_of_getElem? (i := 102) (by decide +kernel)))))) (by decide +kernel)
theorem m_286 : (Jvm.Cond.methodLink "SharedEchoes" (72 : Nat) ({ cls := "SharedEchoes$State", name := "isLost", desc := "(I)Z" } : Jvm.MethodName)) ∈ LW := LW_in (List.mem_append_right _ (List.mem_append_right _ (List.mem_append_left _ ((List.mem_of_getElem? (i := 103) (by decide +kernel)))))) (by decide +kernel)
theorem m_287 : (Jvm.Cond.instanceMethod ({ cls := "SharedEchoes$State", name := "isLost", desc := "(I)Z" } : Jvm.MethodName)) ∈ LW := LW_in (List.mem_append_right _ (List.mem_append_right _ (List.mem_append_left _ ((List.mem_of_getElem? (i := 104) (by decide +kernel)))))) (by decide +kernel)
theorem m_288 : (Jvm.Cond.selects "SharedEchoes$State" ({ cls := "SharedEchoes$State", name := "isLost", desc := "(I)Z" } : Jvm.MethodName) ({ cls := "SharedEchoes$State", name := "isLost", desc := "(I)Z" } : Jvm.MethodName)) ∈ LW := LW_in (List.mem_append_right _ (List.mem_append_right _ (List.mem_append_left _ ((List.mem_of_getElem? (i := 105) (by decide +kernel)))))) (by decide +kernel)
theorem m_289 : (Jvm.Cond.code ({ cls := "SharedEchoes$State", name := "isLost", desc := "(I)Z" } : Jvm.MethodName) prog_8_method_7_code (2 : Nat) (Option.some Jvm.ClassFile.FieldType.boolean)) ∈ LW := LW_in (List.mem_append_right _ (List.mem_append_right _ (List.mem_append_left _ ((List.mem_of_getElem? (i := 106) (by decide +kernel)))))) (by decide +kernel)
theorem m_290 : (Jvm.Cond.methodLink "SharedEchoes$State" (47 : Nat) ({ cls := "SharedEchoes$State", name := "delayOf", desc := "(I)I" } : Jvm.MethodName)) ∈ LW := LW_in (List.mem_append_right _ (List.mem_append_right _ (List.mem_append_left _ ((List.mem_of_getElem? (i := 107) (by decide +kernel)))))) (by decide +kernel)
theorem m_291 : (Jvm.Cond.instanceMethod ({ cls := "SharedEchoes$State", name := "delayOf", desc := "(I)I" } : Jvm.MethodName)) ∈ LW := LW_in (List.mem_append_right _ (List.mem_append_right _ (List.mem_append_left _ ((List.mem_of_getElem? (i := 108) (by decide +kernel)))))) (by decide +kernel)
theorem m_292 : (Jvm.Cond.selects "SharedEchoes$State" ({ cls := "SharedEchoes$State", name := "delayOf", desc := "(I)I" } : Jvm.MethodName) ({ cls := "SharedEchoes$State", name := "delayOf", desc := "(I)I" } : Jvm.MethodName)) ∈ LW := LW_in (List.mem_append_right _ (List.mem_append_right _ (List.mem_append_left _ ((List.mem_of_getElem? (i := 109) (by decide +kernel)))))) (by decide +kernel)
theorem m_293 : (Jvm.Cond.code ({ cls := "SharedEchoes$State", name := "delayOf", desc := "(I)I" } : Jvm.MethodName) prog_8_method_3_code (2 : Nat) (Option.some Jvm.ClassFile.FieldType.int)) ∈ LW := LW_in (List.mem_append_right _ (List.mem_append_right _ (List.mem_append_left _ ((List.mem_of_getElem? (i := 110) (by decide +kernel)))))) (by decide +kernel)
theorem m_294 : (Jvm.Cond.methodLink "SharedEchoesLaw" (27 : Nat) ({ cls := "SharedEchoes", name := "off", desc := "(I)I" } : Jvm.MethodName)) ∈ LW := LW_in (List.mem_append_right _ (List.mem_append_right _ (List.mem_append_left _ ((List.mem_of_getElem? (i := 111) (by decide +kernel)))))) (by decide +kernel)
theorem m_295 : (Jvm.Cond.instanceMethod ({ cls := "SharedEchoes", name := "off", desc := "(I)I" } : Jvm.MethodName)) ∈ LW := LW_in (List.mem_append_right _ (List.mem_append_right _ (List.mem_append_left _ ((List.mem_of_getElem? (i := 112) (by decide +kernel)))))) (by decide +kernel)
theorem m_296 : (Jvm.Cond.selects "SharedEchoes" ({ cls := "SharedEchoes", name := "off", desc := "(I)I" } : Jvm.MethodName) ({ cls := "SharedEchoes", name := "off", desc := "(I)I" } : Jvm.MethodName)) ∈ LW := LW_in (List.mem_append_right _ (List.mem_append_right _ (List.mem_append_left _ ((List.mem_of_getElem? (i := 113) (by decide +kernel)))))) (by decide +kernel)
theorem m_297 : (Jvm.Cond.code ({ cls := "SharedEchoes", name := "off", desc := "(I)I" } : Jvm.MethodName) prog_1_method_5_code (3 : Nat) (Option.some Jvm.ClassFile.FieldType.int)) ∈ LW := LW_in (List.mem_append_right _ (List.mem_append_right _ (List.mem_append_left _ ((List.mem_of_getElem? (i := 114) (by decide +kernel)))))) (by decide +kernel)
theorem m_298 : (Jvm.Cond.methodLink "SharedEchoes" (80 : Nat) ({ cls := "SharedEchoes$State", name := "isOn", desc := "(I)Z" } : Jvm.MethodName)) ∈ LW := LW_in (List.mem_append_right _ (List.mem_append_right _ (List.mem_append_left _ ((List.mem_of_getElem? (i := 115) (by decide +kernel)))))) (by decide +kernel)
theorem m_299 : (Jvm.Cond.instanceMethod ({ cls := "SharedEchoes$State", name := "isOn", desc := "(I)Z" } : Jvm.MethodName)) ∈ LW := LW_in (List.mem_append_right _ (List.mem_append_right _ (List.mem_append_left _ ((List.mem_of_getElem? (i := 116) (by decide +kernel)))))) (by decide +kernel)
theorem m_300 : (Jvm.Cond.selects "SharedEchoes$State" ({ cls := "SharedEchoes$State", name := "isOn", desc := "(I)Z" } : Jvm.MethodName) ({ cls := "SharedEchoes$State", name := "isOn", desc := "(I)Z" } : Jvm.MethodName)) ∈ LW := LW_in (List.mem_append_right _ (List.mem_append_right _ (List.mem_append_left _ ((List.mem_of_getElem? (i := 117) (by decide +kernel)))))) (by decide +kernel)
theorem m_301 : (Jvm.Cond.code ({ cls := "SharedEchoes$State", name := "isOn", desc := "(I)Z" } : Jvm.MethodName) prog_8_method_6_code (2 : Nat) (Option.some Jvm.ClassFile.FieldType.boolean)) ∈ LW := LW_in (List.mem_append_right _ (List.mem_append_right _ (List.mem_append_left _ ((List.mem_of_getElem? (i := 118) (by decide +kernel)))))) (by decide +kernel)
theorem m_302 : (Jvm.Cond.constant "SharedEchoes" (83 : Nat) (-1000002 : Int32)) ∈ LW := LW_in (List.mem_append_right _ (List.mem_append_right _ (List.mem_append_left _ ((List.mem_of_getElem? (i := 119) (by decide +kernel)))))) (by decide +kernel)
theorem m_303 : (Jvm.Cond.methodLink "SharedEchoes" (84 : Nat) ({ cls := "SharedEchoes$State", name := "delayOf", desc := "(I)I" } : Jvm.MethodName)) ∈ LW := LW_in (List.mem_append_right _ (List.mem_append_right _ (List.mem_append_left _ ((List.mem_of_getElem? (i := 120) (by decide +kernel)))))) (by decide +kernel)
theorem m_304 : (Jvm.Cond.methodLink "SharedEchoesLaw" (31 : Nat) ({ cls := "SharedEchoes", name := "feedback", desc := "(II)I" } : Jvm.MethodName)) ∈ LW := LW_in (List.mem_append_right _ (List.mem_append_right _ (List.mem_append_left _ ((List.mem_of_getElem? (i := 121) (by decide +kernel)))))) (by decide +kernel)
theorem m_305 : (Jvm.Cond.instanceMethod ({ cls := "SharedEchoes", name := "feedback", desc := "(II)I" } : Jvm.MethodName)) ∈ LW := LW_in (List.mem_append_right _ (List.mem_append_right _ (List.mem_append_left _ ((List.mem_of_getElem? (i := 122) (by decide +kernel)))))) (by decide +kernel)
theorem m_306 : (Jvm.Cond.selects "SharedEchoes" ({ cls := "SharedEchoes", name := "feedback", desc := "(II)I" } : Jvm.MethodName) ({ cls := "SharedEchoes", name := "feedback", desc := "(II)I" } : Jvm.MethodName)) ∈ LW := LW_in (List.mem_append_right _ (List.mem_append_right _ (List.mem_append_left _ ((List.mem_of_getElem? (i := 123) (by decide +kernel)))))) (by decide +kernel)
theorem m_307 : (Jvm.Cond.code ({ cls := "SharedEchoes", name := "feedback", desc := "(II)I" } : Jvm.MethodName) prog_1_method_6_code (5 : Nat) (Option.some Jvm.ClassFile.FieldType.int)) ∈ LW := LW_in (List.mem_append_right _ (List.mem_append_right _ (List.mem_append_left _ ((List.mem_of_getElem? (i := 124) (by decide +kernel)))))) (by decide +kernel)
theorem m_308 : (Jvm.Cond.methodLink "SharedEchoes" (87 : Nat) ({ cls := "SharedEchoes", name := "feedbackError", desc := "(II)I" } : Jvm.MethodName)) ∈ LW := LW_in (List.mem_append_right _ (List.mem_append_right _ (List.mem_append_left _ ((List.mem_of_getElem? (i := 125) (by decide +kernel)))))) (by decide +kernel)
theorem m_309 : (Jvm.Cond.static ({ cls := "SharedEchoes", name := "feedbackError", desc := "(II)I" } : Jvm.MethodName)) ∈ LW := LW_in (List.mem_append_right _ (List.mem_append_right _ (List.mem_append_left _ ((List.mem_of_getElem? (i := 126) (by decide +kernel)))))) (by decide +kernel)
theorem m_310 : (Jvm.Cond.code ({ cls := "SharedEchoes", name := "feedbackError", desc := "(II)I" } : Jvm.MethodName) prog_1_method_32_code (3 : Nat) (Option.some Jvm.ClassFile.FieldType.int)) ∈ LW := LW_in (List.mem_append_right _ (List.mem_append_right _ (List.mem_append_left _ ((List.mem_of_getElem? (i := 127) (by decide +kernel)))))) (by decide +kernel)
theorem m_311 : (Jvm.Cond.methodLink "SharedEchoes" (91 : Nat) ({ cls := "SharedEchoes$State", name := "gainOf", desc := "(I)I" } : Jvm.MethodName)) ∈ LW := LW_in (List.mem_append_right _ (List.mem_append_right _ (List.mem_append_left _ ((List.mem_of_getElem? (i := 128) (by decide +kernel)))))) (by decide +kernel)
theorem m_312 : (Jvm.Cond.instanceMethod ({ cls := "SharedEchoes$State", name := "gainOf", desc := "(I)I" } : Jvm.MethodName)) ∈ LW := LW_in (List.mem_append_right _ (List.mem_append_right _ (List.mem_append_left _ ((List.mem_of_getElem? (i := 129) (by decide +kernel)))))) (by decide +kernel)
theorem m_313 : (Jvm.Cond.selects "SharedEchoes$State" ({ cls := "SharedEchoes$State", name := "gainOf", desc := "(I)I" } : Jvm.MethodName) ({ cls := "SharedEchoes$State", name := "gainOf", desc := "(I)I" } : Jvm.MethodName)) ∈ LW := LW_in (List.mem_append_right _ (List.mem_append_right _ (List.mem_append_left _ ((List.mem_of_getElem? (i := 130) (by decide +kernel)))))) (by decide +kernel)
theorem m_314 : (Jvm.Cond.code ({ cls := "SharedEchoes$State", name := "gainOf", desc := "(I)I" } : Jvm.MethodName) prog_8_method_4_code (2 : Nat) (Option.some Jvm.ClassFile.FieldType.int)) ∈ LW := LW_in (List.mem_append_right _ (List.mem_append_right _ (List.mem_append_left _ ((List.mem_of_getElem? (i := 131) (by decide +kernel)))))) (by decide +kernel)
theorem m_315 : (Jvm.Cond.methodLink "SharedEchoesLaw" (36 : Nat) ({ cls := "SharedEchoes", name := "steal", desc := "(I)I" } : Jvm.MethodName)) ∈ LW := LW_in (List.mem_append_right _ (List.mem_append_right _ (List.mem_append_left _ ((List.mem_of_getElem? (i := 132) (by decide +kernel)))))) (by decide +kernel)
theorem m_316 : (Jvm.Cond.instanceMethod ({ cls := "SharedEchoes", name := "steal", desc := "(I)I" } : Jvm.MethodName)) ∈ LW := LW_in (List.mem_append_right _ (List.mem_append_right _ (List.mem_append_left _ ((List.mem_of_getElem? (i := 133) (by decide +kernel)))))) (by decide +kernel)
theorem m_317 : (Jvm.Cond.selects "SharedEchoes" ({ cls := "SharedEchoes", name := "steal", desc := "(I)I" } : Jvm.MethodName) ({ cls := "SharedEchoes", name := "steal", desc := "(I)I" } : Jvm.MethodName)) ∈ LW := LW_in (List.mem_append_right _ (List.mem_append_right _ (List.mem_append_left _ ((List.mem_of_getElem? (i := 134) (by decide +kernel)))))) (by decide +kernel)
theorem m_318 : (Jvm.Cond.code ({ cls := "SharedEchoes", name := "steal", desc := "(I)I" } : Jvm.MethodName) prog_1_method_7_code (3 : Nat) (Option.some Jvm.ClassFile.FieldType.int)) ∈ LW := LW_in (List.mem_append_right _ (List.mem_append_right _ (List.mem_append_left _ ((List.mem_of_getElem? (i := 135) (by decide +kernel)))))) (by decide +kernel)
theorem m_319 : (Jvm.Cond.methodLink "SharedEchoes" (94 : Nat) ({ cls := "SharedEchoes$State", name := "wordsOfProgram", desc := "()I" } : Jvm.MethodName)) ∈ LW := LW_in (List.mem_append_right _ (List.mem_append_right _ (List.mem_append_left _ ((List.mem_of_getElem? (i := 136) (by decide +kernel)))))) (by decide +kernel)
theorem m_320 : (Jvm.Cond.instanceMethod ({ cls := "SharedEchoes$State", name := "wordsOfProgram", desc := "()I" } : Jvm.MethodName)) ∈ LW := LW_in (List.mem_append_right _ (List.mem_append_right _ (List.mem_append_left _ ((List.mem_of_getElem? (i := 137) (by decide +kernel)))))) (by decide +kernel)
theorem m_321 : (Jvm.Cond.selects "SharedEchoes$State" ({ cls := "SharedEchoes$State", name := "wordsOfProgram", desc := "()I" } : Jvm.MethodName) ({ cls := "SharedEchoes$State", name := "wordsOfProgram", desc := "()I" } : Jvm.MethodName)) ∈ LW := LW_in (List.mem_append_right _ (List.mem_append_right _ (List.mem_append_left _ ((List.mem_of_getElem? (i := 138) (by decide +kernel)))))) (by decide +kernel)
theorem m_322 : (Jvm.Cond.code ({ cls := "SharedEchoes$State", name := "wordsOfProgram", desc := "()I" } : Jvm.MethodName) prog_8_method_13_code (1 : Nat) (Option.some Jvm.ClassFile.FieldType.int)) ∈ LW := LW_in (List.mem_append_right _ (List.mem_append_right _ (List.mem_append_left _ ((List.mem_of_getElem? (i := 139) (by decide +kernel)))))) (by decide +kernel)
theorem m_323 : (Jvm.Cond.methodLink "SharedEchoes" (98 : Nat) ({ cls := "SharedEchoes", name := "stealError", desc := "(II)I" } : Jvm.MethodName)) ∈ LW := LW_in (List.mem_append_right _ (List.mem_append_right _ (List.mem_append_left _ ((List.mem_of_getElem? (i := 140) (by decide +kernel)))))) (by decide +kernel)
theorem m_324 : (Jvm.Cond.static ({ cls := "SharedEchoes", name := "stealError", desc := "(II)I" } : Jvm.MethodName)) ∈ LW := LW_in (List.mem_append_right _ (List.mem_append_right _ (List.mem_append_left _ ((List.mem_of_getElem? (i := 141) (by decide +kernel)))))) (by decide +kernel)
theorem m_325 : (Jvm.Cond.code ({ cls := "SharedEchoes", name := "stealError", desc := "(II)I" } : Jvm.MethodName) prog_1_method_33_code (2 : Nat) (Option.some Jvm.ClassFile.FieldType.int)) ∈ LW := LW_in (List.mem_append_right _ (List.mem_append_right _ (List.mem_append_left _ ((List.mem_of_getElem? (i := 142) (by decide +kernel)))))) (by decide +kernel)
theorem m_326 : (Jvm.Cond.constant "SharedEchoes" (227 : Nat) (-1000003 : Int32)) ∈ LW := LW_in (List.mem_append_right _ (List.mem_append_right _ (List.mem_append_left _ ((List.mem_of_getElem? (i := 143) (by decide +kernel)))))) (by decide +kernel)
theorem m_327 : (Jvm.Cond.methodLink "SharedEchoes" (101 : Nat) ({ cls := "SharedEchoes$State", name := "takeWords", desc := "(I)V" } : Jvm.MethodName)) ∈ LW := LW_in (List.mem_append_right _ (List.mem_append_right _ (List.mem_append_left _ ((List.mem_of_getElem? (i := 144) (by decide +kernel)))))) (by decide +kernel)
theorem m_328 : (Jvm.Cond.instanceMethod ({ cls := "SharedEchoes$State", name := "takeWords", desc := "(I)V" } : Jvm.MethodName)) ∈ LW := LW_in (List.mem_append_right _ (List.mem_append_right _ (List.mem_append_left _ ((List.mem_of_getElem? (i := 145) (by decide +kernel)))))) (by decide +kernel)
theorem m_329 : (Jvm.Cond.selects "SharedEchoes$State" ({ cls := "SharedEchoes$State", name := "takeWords", desc := "(I)V" } : Jvm.MethodName) ({ cls := "SharedEchoes$State", name := "takeWords", desc := "(I)V" } : Jvm.MethodName)) ∈ LW := LW_in (List.mem_append_right _ (List.mem_append_right _ (List.mem_append_left _ ((List.mem_of_getElem? (i := 146) (by decide +kernel)))))) (by decide +kernel)
theorem m_330 : (Jvm.Cond.code ({ cls := "SharedEchoes$State", name := "takeWords", desc := "(I)V" } : Jvm.MethodName) prog_8_method_14_code (2 : Nat) (Option.none : Option Jvm.ClassFile.FieldType)) ∈ LW := LW_in (List.mem_append_right _ (List.mem_append_right _ (List.mem_append_left _ ((List.mem_of_getElem? (i := 147) (by decide +kernel)))))) (by decide +kernel)
theorem m_331 : (Jvm.Cond.methodLink "SharedEchoes$State" (95 : Nat) ({ cls := "SharedEchoes$Ring", name := "shorten", desc := "(I)V" } : Jvm.MethodName)) ∈ LW := LW_in (List.mem_append_right _ (List.mem_append_right _ (List.mem_append_left _ ((List.mem_of_getElem? (i := 148) (by decide +kernel)))))) (by decide +kernel)
theorem m_332 : (Jvm.Cond.instanceMethod ({ cls := "SharedEchoes$Ring", name := "shorten", desc := "(I)V" } : Jvm.MethodName)) ∈ LW := LW_in (List.mem_append_right _ (List.mem_append_right _ (List.mem_append_left _ ((List.mem_of_getElem? (i := 149) (by decide +kernel)))))) (by decide +kernel)
theorem m_333 : (Jvm.Cond.selects "SharedEchoes$Ring" ({ cls := "SharedEchoes$Ring", name := "shorten", desc := "(I)V" } : Jvm.MethodName) ({ cls := "SharedEchoes$Ring", name := "shorten", desc := "(I)V" } : Jvm.MethodName)) ∈ LW := LW_in (List.mem_append_right _ (List.mem_append_right _ (List.mem_append_left _ ((List.mem_of_getElem? (i := 150) (by decide +kernel)))))) (by decide +kernel)
theorem m_334 : (Jvm.Cond.code ({ cls := "SharedEchoes$Ring", name := "shorten", desc := "(I)V" } : Jvm.MethodName) prog_7_method_4_code (2 : Nat) (Option.none : Option Jvm.ClassFile.FieldType)) ∈ LW := LW_in (List.mem_append_right _ (List.mem_append_right _ (List.mem_append_left _ ((List.mem_of_getElem? (i := 151) (by decide +kernel)))))) (by decide +kernel)
theorem m_335 : (Jvm.Cond.methodLink "SharedEchoes$Ring" (22 : Nat) ({ cls := "java/lang/Math", name := "max", desc := "(II)I" } : Jvm.MethodName)) ∈ LW := LW_in (List.mem_append_right _ (List.mem_append_right _ (List.mem_append_left _ ((List.mem_of_getElem? (i := 152) (by decide +kernel)))))) (by decide +kernel)
theorem m_336 : (Jvm.Cond.methodLink "SharedEchoesLaw" (40 : Nat) ({ cls := "SharedEchoes", name := "giveBack", desc := "(I)I" } : Jvm.MethodName)) ∈ LW := LW_in (List.mem_append_right _ (List.mem_append_right _ (List.mem_append_left _ ((List.mem_of_getElem? (i := 153) (by decide +kernel)))))) (by decide +kernel)
theorem m_337 : (Jvm.Cond.instanceMethod ({ cls := "SharedEchoes", name := "giveBack", desc := "(I)I" } : Jvm.MethodName)) ∈ LW := LW_in (List.mem_append_right _ (List.mem_append_right _ (List.mem_append_left _ ((List.mem_of_getElem? (i := 154) (by decide +kernel)))))) (by decide +kernel)
theorem m_338 : (Jvm.Cond.selects "SharedEchoes" ({ cls := "SharedEchoes", name := "giveBack", desc := "(I)I" } : Jvm.MethodName) ({ cls := "SharedEchoes", name := "giveBack", desc := "(I)I" } : Jvm.MethodName)) ∈ LW := LW_in (List.mem_append_right _ (List.mem_append_right _ (List.mem_append_left _ ((List.mem_of_getElem? (i := 155) (by decide +kernel)))))) (by decide +kernel)
theorem m_339 : (Jvm.Cond.code ({ cls := "SharedEchoes", name := "giveBack", desc := "(I)I" } : Jvm.MethodName) prog_1_method_8_code (3 : Nat) (Option.some Jvm.ClassFile.FieldType.int)) ∈ LW := LW_in (List.mem_append_right _ (List.mem_append_right _ (List.mem_append_left _ ((List.mem_of_getElem? (i := 156) (by decide +kernel)))))) (by decide +kernel)
theorem m_340 : (Jvm.Cond.methodLink "SharedEchoes" (115 : Nat) ({ cls := "SharedEchoes", name := "giveBackError", desc := "(II)I" } : Jvm.MethodName)) ∈ LW := LW_in (List.mem_append_right _ (List.mem_append_right _ (List.mem_append_left _ ((List.mem_of_getElem? (i := 157) (by decide +kernel)))))) (by decide +kernel)
theorem m_341 : (Jvm.Cond.static ({ cls := "SharedEchoes", name := "giveBackError", desc := "(II)I" } : Jvm.MethodName)) ∈ LW := LW_in (List.mem_append_right _ (List.mem_append_right _ (List.mem_append_left _ ((List.mem_of_getElem? (i := 158) (by decide +kernel)))))) (by decide +kernel)
theorem m_342 : (Jvm.Cond.code ({ cls := "SharedEchoes", name := "giveBackError", desc := "(II)I" } : Jvm.MethodName) prog_1_method_34_code (2 : Nat) (Option.some Jvm.ClassFile.FieldType.int)) ∈ LW := LW_in (List.mem_append_right _ (List.mem_append_right _ (List.mem_append_left _ ((List.mem_of_getElem? (i := 159) (by decide +kernel)))))) (by decide +kernel)
theorem m_343 : (Jvm.Cond.methodLink "SharedEchoes" (118 : Nat) ({ cls := "SharedEchoes$Ring", name := "lengthen", desc := "(I)V" } : Jvm.MethodName)) ∈ LW := LW_in (List.mem_append_right _ (List.mem_append_right _ (List.mem_append_left _ ((List.mem_of_getElem? (i := 160) (by decide +kernel)))))) (by decide +kernel)
theorem m_344 : (Jvm.Cond.instanceMethod ({ cls := "SharedEchoes$Ring", name := "lengthen", desc := "(I)V" } : Jvm.MethodName)) ∈ LW := LW_in (List.mem_append_right _ (List.mem_append_right _ (List.mem_append_left _ ((List.mem_of_getElem? (i := 161) (by decide +kernel)))))) (by decide +kernel)
theorem m_345 : (Jvm.Cond.selects "SharedEchoes$Ring" ({ cls := "SharedEchoes$Ring", name := "lengthen", desc := "(I)V" } : Jvm.MethodName) ({ cls := "SharedEchoes$Ring", name := "lengthen", desc := "(I)V" } : Jvm.MethodName)) ∈ LW := LW_in (List.mem_append_right _ (List.mem_append_right _ (List.mem_append_left _ ((List.mem_of_getElem? (i := 162) (by decide +kernel)))))) (by decide +kernel)
theorem m_346 : (Jvm.Cond.code ({ cls := "SharedEchoes$Ring", name := "lengthen", desc := "(I)V" } : Jvm.MethodName) prog_7_method_5_code (4 : Nat) (Option.none : Option Jvm.ClassFile.FieldType)) ∈ LW := LW_in (List.mem_append_right _ (List.mem_append_right _ (List.mem_append_left _ ((List.mem_of_getElem? (i := 163) (by decide +kernel)))))) (by decide +kernel)
theorem m_347 : (Jvm.Cond.methodLink "SharedEchoes$Ring" (28 : Nat) ({ cls := "java/lang/Math", name := "min", desc := "(II)I" } : Jvm.MethodName)) ∈ LW := LW_in (List.mem_append_right _ (List.mem_append_right _ (List.mem_append_left _ ((List.mem_of_getElem? (i := 164) (by decide +kernel)))))) (by decide +kernel)
theorem m_348 : (Jvm.Cond.methodLink "SharedEchoesLaw" (44 : Nat) ({ cls := "SharedEchoes", name := "set", desc := "(II)I" } : Jvm.MethodName)) ∈ LW := LW_in (List.mem_append_right _ (List.mem_append_right _ (List.mem_append_left _ ((List.mem_of_getElem? (i := 165) (by decide +kernel)))))) (by decide +kernel)
theorem m_349 : (Jvm.Cond.instanceMethod ({ cls := "SharedEchoes", name := "set", desc := "(II)I" } : Jvm.MethodName)) ∈ LW := LW_in (List.mem_append_right _ (List.mem_append_right _ (List.mem_append_left _ ((List.mem_of_getElem? (i := 166) (by decide +kernel)))))) (by decide +kernel)
theorem m_350 : (Jvm.Cond.selects "SharedEchoes" ({ cls := "SharedEchoes", name := "set", desc := "(II)I" } : Jvm.MethodName) ({ cls := "SharedEchoes", name := "set", desc := "(II)I" } : Jvm.MethodName)) ∈ LW := LW_in (List.mem_append_right _ (List.mem_append_right _ (List.mem_append_left _ ((List.mem_of_getElem? (i := 167) (by decide +kernel)))))) (by decide +kernel)
theorem m_351 : (Jvm.Cond.code ({ cls := "SharedEchoes", name := "set", desc := "(II)I" } : Jvm.MethodName) prog_1_method_9_code (3 : Nat) (Option.some Jvm.ClassFile.FieldType.int)) ∈ LW := LW_in (List.mem_append_right _ (List.mem_append_right _ (List.mem_append_left _ ((List.mem_of_getElem? (i := 168) (by decide +kernel)))))) (by decide +kernel)
theorem m_352 : (Jvm.Cond.methodLink "SharedEchoes" (121 : Nat) ({ cls := "SharedEchoes", name := "isSetting", desc := "(II)Z" } : Jvm.MethodName)) ∈ LW := LW_in (List.mem_append_right _ (List.mem_append_right _ (List.mem_append_left _ ((List.mem_of_getElem? (i := 169) (by decide +kernel)))))) (by decide +kernel)
theorem m_353 : (Jvm.Cond.static ({ cls := "SharedEchoes", name := "isSetting", desc := "(II)Z" } : Jvm.MethodName)) ∈ LW := LW_in (List.mem_append_right _ (List.mem_append_right _ (List.mem_append_left _ ((List.mem_of_getElem? (i := 170) (by decide +kernel)))))) (by decide +kernel)
theorem m_354 : (Jvm.Cond.code ({ cls := "SharedEchoes", name := "isSetting", desc := "(II)Z" } : Jvm.MethodName) prog_1_method_28_code (2 : Nat) (Option.some Jvm.ClassFile.FieldType.boolean)) ∈ LW := LW_in (List.mem_append_right _ (List.mem_append_right _ (List.mem_append_left _ ((List.mem_of_getElem? (i := 171) (by decide +kernel)))))) (by decide +kernel)
theorem m_355 : (Jvm.Cond.methodLink "SharedEchoes" (125 : Nat) ({ cls := "SharedEchoes$State", name := "putSetting", desc := "(II)I" } : Jvm.MethodName)) ∈ LW := LW_in (List.mem_append_right _ (List.mem_append_right _ (List.mem_append_left _ ((List.mem_of_getElem? (i := 172) (by decide +kernel)))))) (by decide +kernel)
theorem m_356 : (Jvm.Cond.instanceMethod ({ cls := "SharedEchoes$State", name := "putSetting", desc := "(II)I" } : Jvm.MethodName)) ∈ LW := LW_in (List.mem_append_right _ (List.mem_append_right _ (List.mem_append_left _ ((List.mem_of_getElem? (i := 173) (by decide +kernel)))))) (by decide +kernel)
theorem m_357 : (Jvm.Cond.selects "SharedEchoes$State" ({ cls := "SharedEchoes$State", name := "putSetting", desc := "(II)I" } : Jvm.MethodName) ({ cls := "SharedEchoes$State", name := "putSetting", desc := "(II)I" } : Jvm.MethodName)) ∈ LW := LW_in (List.mem_append_right _ (List.mem_append_right _ (List.mem_append_left _ ((List.mem_of_getElem? (i := 174) (by decide +kernel)))))) (by decide +kernel)
theorem m_358 : (Jvm.Cond.code ({ cls := "SharedEchoes$State", name := "putSetting", desc := "(II)I" } : Jvm.MethodName) prog_8_method_15_code (4 : Nat) (Option.some Jvm.ClassFile.FieldType.int)) ∈ LW := LW_in (List.mem_append_right _ (List.mem_append_right _ (List.mem_append_left _ ((List.mem_of_getElem? (i := 175) (by decide +kernel)))))) (by decide +kernel)
theorem m_359 : (Jvm.Cond.methodLink "SharedEchoesLaw" (48 : Nat) ({ cls := "SharedEchoes", name := "reset", desc := "()I" } : Jvm.MethodName)) ∈ LW := LW_in (List.mem_append_right _ (List.mem_append_right _ (List.mem_append_left _ ((List.mem_of_getElem? (i := 176) (by decide +kernel)))))) (by decide +kernel)
theorem m_360 : (Jvm.Cond.instanceMethod ({ cls := "SharedEchoes", name := "reset", desc := "()I" } : Jvm.MethodName)) ∈ LW := LW_in (List.mem_append_right _ (List.mem_append_right _ (List.mem_append_left _ ((List.mem_of_getElem? (i := 177) (by decide +kernel)))))) (by decide +kernel)
theorem m_361 : (Jvm.Cond.selects "SharedEchoes" ({ cls := "SharedEchoes", name := "reset", desc := "()I" } : Jvm.MethodName) ({ cls := "SharedEchoes", name := "reset", desc := "()I" } : Jvm.MethodName)) ∈ LW := LW_in (List.mem_append_right _ (List.mem_append_right _ (List.mem_append_left _ ((List.mem_of_getElem? (i := 178) (by decide +kernel)))))) (by decide +kernel)
theorem m_362 : (Jvm.Cond.code ({ cls := "SharedEchoes", name := "reset", desc := "()I" } : Jvm.MethodName) prog_1_method_10_code (2 : Nat) (Option.some Jvm.ClassFile.FieldType.int)) ∈ LW := LW_in (List.mem_append_right _ (List.mem_append_right _ (List.mem_append_left _ ((List.mem_of_getElem? (i := 179) (by decide +kernel)))))) (by decide +kernel)
theorem m_363 : (Jvm.Cond.methodLink "SharedEchoes" (137 : Nat) ({ cls := "SharedEchoes$Meters", name := "startAnew", desc := "()V" } : Jvm.MethodName)) ∈ LW := LW_in (List.mem_append_right _ (List.mem_append_right _ (List.mem_append_left _ ((List.mem_of_getElem? (i := 180) (by decide +kernel)))))) (by decide +kernel)
theorem m_364 : (Jvm.Cond.instanceMethod ({ cls := "SharedEchoes$Meters", name := "startAnew", desc := "()V" } : Jvm.MethodName)) ∈ LW := LW_in (List.mem_append_right _ (List.mem_append_right _ (List.mem_append_left _ ((List.mem_of_getElem? (i := 181) (by decide +kernel)))))) (by decide +kernel)
theorem m_365 : (Jvm.Cond.selects "SharedEchoes$Meters" ({ cls := "SharedEchoes$Meters", name := "startAnew", desc := "()V" } : Jvm.MethodName) ({ cls := "SharedEchoes$Meters", name := "startAnew", desc := "()V" } : Jvm.MethodName)) ∈ LW := LW_in (List.mem_append_right _ (List.mem_append_right _ (List.mem_append_left _ ((List.mem_of_getElem? (i := 182) (by decide +kernel)))))) (by decide +kernel)
theorem m_366 : (Jvm.Cond.code ({ cls := "SharedEchoes$Meters", name := "startAnew", desc := "()V" } : Jvm.MethodName) prog_4_method_3_code (1 : Nat) (Option.none : Option Jvm.ClassFile.FieldType)) ∈ LW := LW_in (List.mem_append_right _ (List.mem_append_right _ (List.mem_append_left _ ((List.mem_of_getElem? (i := 183) (by decide +kernel)))))) (by decide +kernel)
theorem m_367 : (Jvm.Cond.methodLink "SharedEchoesLaw" (53 : Nat) ({ cls := "SharedEchoes", name := "tapOf", desc := "(II)I" } : Jvm.MethodName)) ∈ LW := LW_in (List.mem_append_right _ (List.mem_append_right _ (List.mem_append_left _ ((List.mem_of_getElem? (i := 184) (by decide +kernel)))))) (by decide +kernel)
theorem m_368 : (Jvm.Cond.instanceMethod ({ cls := "SharedEchoes", name := "tapOf", desc := "(II)I" } : Jvm.MethodName)) ∈ LW := LW_in (List.mem_append_right _ (List.mem_append_right _ (List.mem_append_left _ ((List.mem_of_getElem? (i := 185) (by decide +kernel)))))) (by decide +kernel)
theorem m_369 : (Jvm.Cond.selects "SharedEchoes" ({ cls := "SharedEchoes", name := "tapOf", desc := "(II)I" } : Jvm.MethodName) ({ cls := "SharedEchoes", name := "tapOf", desc := "(II)I" } : Jvm.MethodName)) ∈ LW := LW_in (List.mem_append_right _ (List.mem_append_right _ (List.mem_append_left _ ((List.mem_of_getElem? (i := 186) (by decide +kernel)))))) (by decide +kernel)
theorem m_370 : (Jvm.Cond.code ({ cls := "SharedEchoes", name := "tapOf", desc := "(II)I" } : Jvm.MethodName) prog_1_method_11_code (3 : Nat) (Option.some Jvm.ClassFile.FieldType.int)) ∈ LW := LW_in (List.mem_append_right _ (List.mem_append_right _ (List.mem_append_left _ ((List.mem_of_getElem? (i := 187) (by decide +kernel)))))) (by decide +kernel)
theorem m_371 : (Jvm.Cond.constant "SharedEchoes" (144 : Nat) (-1000004 : Int32)) ∈ LW := LW_in (List.mem_append_right _ (List.mem_append_right _ (List.mem_append_left _ ((List.mem_of_getElem? (i := 188) (by decide +kernel)))))) (by decide +kernel)
theorem m_372 : (Jvm.Cond.methodLink "SharedEchoes" (145 : Nat) ({ cls := "SharedEchoes$State", name := "readingOf", desc := "(I)I" } : Jvm.MethodName)) ∈ LW := LW_in (List.mem_append_right _ (List.mem_append_right _ (List.mem_append_left _ ((List.mem_of_getElem? (i := 189) (by decide +kernel)))))) (by decide +kernel)
theorem m_373 : (Jvm.Cond.methodLink "SharedEchoes" (148 : Nat) ({ cls := "SharedEchoes$State", name := "shareOf", desc := "(I)I" } : Jvm.MethodName)) ∈ LW := LW_in (List.mem_append_right _ (List.mem_append_right _ (List.mem_append_left _ ((List.mem_of_getElem? (i := 190) (by decide +kernel)))))) (by decide +kernel)
theorem m_374 : (Jvm.Cond.methodLink "SharedEchoesLaw" (57 : Nat) ({ cls := "SharedEchoes", name := "wordOf", desc := "(I)I" } : Jvm.MethodName)) ∈ LW := LW_in (List.mem_append_right _ (List.mem_append_right _ (List.mem_append_left _ ((List.mem_of_getElem? (i := 191) (by decide +kernel)))))) (by decide +kernel)
theorem m_375 : (Jvm.Cond.instanceMethod ({ cls := "SharedEchoes", name := "wordOf", desc := "(I)I" } : Jvm.MethodName)) ∈ LW := LW_in (List.mem_append_right _ (List.mem_append_right _ (List.mem_append_left _ ((List.mem_of_getElem? (i := 192) (by decide +kernel)))))) (by decide +kernel)
theorem m_376 : (Jvm.Cond.selects "SharedEchoes" ({ cls := "SharedEchoes", name := "wordOf", desc := "(I)I" } : Jvm.MethodName) ({ cls := "SharedEchoes", name := "wordOf", desc := "(I)I" } : Jvm.MethodName)) ∈ LW := LW_in (List.mem_append_right _ (List.mem_append_right _ (List.mem_append_left _ ((List.mem_of_getElem? (i := 193) (by decide +kernel)))))) (by decide +kernel)
theorem m_377 : (Jvm.Cond.code ({ cls := "SharedEchoes", name := "wordOf", desc := "(I)I" } : Jvm.MethodName) prog_1_method_12_code (2 : Nat) (Option.some Jvm.ClassFile.FieldType.int)) ∈ LW := LW_in (List.mem_append_right _ (List.mem_append_right _ (List.mem_append_left _ ((List.mem_of_getElem? (i := 194) (by decide +kernel)))))) (by decide +kernel)
theorem m_378 : (Jvm.Cond.methodLink "SharedEchoes" (151 : Nat) ({ cls := "SharedEchoes$Ring", name := "wordAt", desc := "(I)I" } : Jvm.MethodName)) ∈ LW := LW_in (List.mem_append_right _ (List.mem_append_right _ (List.mem_append_left _ ((List.mem_of_getElem? (i := 195) (by decide +kernel)))))) (by decide +kernel)
theorem m_379 : (Jvm.Cond.methodLink "SharedEchoesLaw" (61 : Nat) ({ cls := "SharedEchoes", name := "outputOf", desc := "(I)I" } : Jvm.MethodName)) ∈ LW := LW_in (List.mem_append_right _ (List.mem_append_right _ (List.mem_append_left _ ((List.mem_of_getElem? (i := 196) (by decide +kernel)))))) (by decide +kernel)
theorem m_380 : (Jvm.Cond.instanceMethod ({ cls := "SharedEchoes", name := "outputOf", desc := "(I)I" } : Jvm.MethodName)) ∈ LW := LW_in (List.mem_append_right _ (List.mem_append_right _ (List.mem_append_left _ ((List.mem_of_getElem? (i := 197) (by decide +kernel)))))) (by decide +kernel)
theorem m_381 : (Jvm.Cond.selects "SharedEchoes" ({ cls := "SharedEchoes", name := "outputOf", desc := "(I)I" } : Jvm.MethodName) ({ cls := "SharedEchoes", name := "outputOf", desc := "(I)I" } : Jvm.MethodName)) ∈ LW := LW_in (List.mem_append_right _ (List.mem_append_right _ (List.mem_append_left _ ((List.mem_of_getElem? (i := 198) (by decide +kernel)))))) (by decide +kernel)
theorem m_382 : (Jvm.Cond.code ({ cls := "SharedEchoes", name := "outputOf", desc := "(I)I" } : Jvm.MethodName) prog_1_method_13_code (2 : Nat) (Option.some Jvm.ClassFile.FieldType.int)) ∈ LW := LW_in (List.mem_append_right _ (List.mem_append_right _ (List.mem_append_left _ ((List.mem_of_getElem? (i := 199) (by decide +kernel)))))) (by decide +kernel)
theorem m_383 : (Jvm.Cond.methodLink "SharedEchoes" (163 : Nat) ({ cls := "SharedEchoes$Outputs", name := "latest", desc := "(I)I" } : Jvm.MethodName)) ∈ LW := LW_in (List.mem_append_right _ (List.mem_append_right _ (List.mem_append_left _ ((List.mem_of_getElem? (i := 200) (by decide +kernel)))))) (by decide +kernel)
theorem m_384 : (Jvm.Cond.instanceMethod ({ cls := "SharedEchoes$Outputs", name := "latest", desc := "(I)I" } : Jvm.MethodName)) ∈ LW := LW_in (List.mem_append_right _ (List.mem_append_right _ (List.mem_append_left _ ((List.mem_of_getElem? (i := 201) (by decide +kernel)))))) (by decide +kernel)
theorem m_385 : (Jvm.Cond.selects "SharedEchoes$Outputs" ({ cls := "SharedEchoes$Outputs", name := "latest", desc := "(I)I" } : Jvm.MethodName) ({ cls := "SharedEchoes$Outputs", name := "latest", desc := "(I)I" } : Jvm.MethodName)) ∈ LW := LW_in (List.mem_append_right _ (List.mem_append_right _ (List.mem_append_left _ ((List.mem_of_getElem? (i := 202) (by decide +kernel)))))) (by decide +kernel)
theorem m_386 : (Jvm.Cond.code ({ cls := "SharedEchoes$Outputs", name := "latest", desc := "(I)I" } : Jvm.MethodName) prog_6_method_3_code (2 : Nat) (Option.some Jvm.ClassFile.FieldType.int)) ∈ LW := LW_in (List.mem_append_right _ (List.mem_append_right _ (List.mem_append_left _ ((List.mem_of_getElem? (i := 203) (by decide +kernel)))))) (by decide +kernel)
theorem m_387 : (Jvm.Cond.methodLink "SharedEchoes$Outputs" (28 : Nat) ({ cls := "java/lang/Math", name := "floorMod", desc := "(II)I" } : Jvm.MethodName)) ∈ LW := LW_in (List.mem_append_right _ (List.mem_append_right _ (List.mem_append_left _ ((List.mem_of_getElem? (i := 204) (by decide +kernel)))))) (by decide +kernel)
theorem m_388 : (Jvm.Cond.methodLink "SharedEchoesLaw" (65 : Nat) ({ cls := "SharedEchoes", name := "meter", desc := "(I)I" } : Jvm.MethodName)) ∈ LW := LW_in (List.mem_append_right _ (List.mem_append_right _ (List.mem_append_left _ ((List.mem_of_getElem? (i := 205) (by decide +kernel)))))) (by decide +kernel)
theorem m_389 : (Jvm.Cond.instanceMethod ({ cls := "SharedEchoes", name := "meter", desc := "(I)I" } : Jvm.MethodName)) ∈ LW := LW_in (List.mem_append_right _ (List.mem_append_right _ (List.mem_append_left _ ((List.mem_of_getElem? (i := 206) (by decide +kernel)))))) (by decide +kernel)
theorem m_390 : (Jvm.Cond.selects "SharedEchoes" ({ cls := "SharedEchoes", name := "meter", desc := "(I)I" } : Jvm.MethodName) ({ cls := "SharedEchoes", name := "meter", desc := "(I)I" } : Jvm.MethodName)) ∈ LW := LW_in (List.mem_append_right _ (List.mem_append_right _ (List.mem_append_left _ ((List.mem_of_getElem? (i := 207) (by decide +kernel)))))) (by decide +kernel)
theorem m_391 : (Jvm.Cond.code ({ cls := "SharedEchoes", name := "meter", desc := "(I)I" } : Jvm.MethodName) prog_1_method_14_code (2 : Nat) (Option.some Jvm.ClassFile.FieldType.int)) ∈ LW := LW_in (List.mem_append_right _ (List.mem_append_right _ (List.mem_append_left _ ((List.mem_of_getElem? (i := 208) (by decide +kernel)))))) (by decide +kernel)
theorem m_392 : (Jvm.Cond.methodLink "SharedEchoes" (175 : Nat) ({ cls := "SharedEchoes$Meters", name := "bitsOfMean", desc := "()I" } : Jvm.MethodName)) ∈ LW := LW_in (List.mem_append_right _ (List.mem_append_right _ (List.mem_append_left _ ((List.mem_of_getElem? (i := 209) (by decide +kernel)))))) (by decide +kernel)
theorem m_393 : (Jvm.Cond.instanceMethod ({ cls := "SharedEchoes$Meters", name := "bitsOfMean", desc := "()I" } : Jvm.MethodName)) ∈ LW := LW_in (List.mem_append_right _ (List.mem_append_right _ (List.mem_append_left _ ((List.mem_of_getElem? (i := 210) (by decide +kernel)))))) (by decide +kernel)
theorem m_394 : (Jvm.Cond.selects "SharedEchoes$Meters" ({ cls := "SharedEchoes$Meters", name := "bitsOfMean", desc := "()I" } : Jvm.MethodName) ({ cls := "SharedEchoes$Meters", name := "bitsOfMean", desc := "()I" } : Jvm.MethodName)) ∈ LW := LW_in (List.mem_append_right _ (List.mem_append_right _ (List.mem_append_left _ ((List.mem_of_getElem? (i := 211) (by decide +kernel)))))) (by decide +kernel)
theorem m_395 : (Jvm.Cond.code ({ cls := "SharedEchoes$Meters", name := "bitsOfMean", desc := "()I" } : Jvm.MethodName) prog_4_method_4_code (1 : Nat) (Option.some Jvm.ClassFile.FieldType.int)) ∈ LW := LW_in (List.mem_append_right _ (List.mem_append_right _ (List.mem_append_left _ ((List.mem_of_getElem? (i := 212) (by decide +kernel)))))) (by decide +kernel)
theorem m_396 : (Jvm.Cond.methodLink "SharedEchoes$Meters" (36 : Nat) ({ cls := "SharedEchoes$Meters", name := "bitsOf", desc := "(F)I" } : Jvm.MethodName)) ∈ LW := LW_in (List.mem_append_right _ (List.mem_append_right _ (List.mem_append_left _ ((List.mem_of_getElem? (i := 213) (by decide +kernel)))))) (by decide +kernel)
theorem m_397 : (Jvm.Cond.static ({ cls := "SharedEchoes$Meters", name := "bitsOf", desc := "(F)I" } : Jvm.MethodName)) ∈ LW := LW_in (List.mem_append_right _ (List.mem_append_right _ (List.mem_append_left _ ((List.mem_of_getElem? (i := 214) (by decide +kernel)))))) (by decide +kernel)
theorem m_398 : (Jvm.Cond.code ({ cls := "SharedEchoes$Meters", name := "bitsOf", desc := "(F)I" } : Jvm.MethodName) prog_4_method_5_code (4 : Nat) (Option.some Jvm.ClassFile.FieldType.int)) ∈ LW := LW_in (List.mem_append_right _ (List.mem_append_right _ (List.mem_append_left _ ((List.mem_of_getElem? (i := 215) (by decide +kernel)))))) (by decide +kernel)
theorem m_399 : (Jvm.Cond.constantFloat "SharedEchoes$Meters" (40 : Nat) (1258291200 : UInt32)) ∈ LW := LW_in (List.mem_append_right _ (List.mem_append_right _ (List.mem_append_left _ ((List.mem_of_getElem? (i := 216) (by decide +kernel)))))) (by decide +kernel)
theorem m_400 : (Jvm.Cond.constant "SharedEchoes$Meters" (41 : Nat) (8388608 : Int32)) ∈ LW := LW_in (List.mem_append_right _ (List.mem_append_right _ (List.mem_append_left _ ((List.mem_of_getElem? (i := 217) (by decide +kernel)))))) (by decide +kernel)
theorem m_401 : (Jvm.Cond.methodLink "SharedEchoesLaw" (69 : Nat) ({ cls := "SharedEchoes", name := "echo", desc := "(II)I" } : Jvm.MethodName)) ∈ LW := LW_in (List.mem_append_right _ (List.mem_append_right _ (List.mem_append_left _ ((List.mem_of_getElem? (i := 218) (by decide +kernel)))))) (by decide +kernel)
theorem m_402 : (Jvm.Cond.instanceMethod ({ cls := "SharedEchoes", name := "echo", desc := "(II)I" } : Jvm.MethodName)) ∈ LW := LW_in (List.mem_append_right _ (List.mem_append_right _ (List.mem_append_left _ ((List.mem_of_getElem? (i := 219) (by decide +kernel)))))) (by decide +kernel)
theorem m_403 : (Jvm.Cond.selects "SharedEchoes" ({ cls := "SharedEchoes", name := "echo", desc := "(II)I" } : Jvm.MethodName) ({ cls := "SharedEchoes", name := "echo", desc := "(II)I" } : Jvm.MethodName)) ∈ LW := LW_in (List.mem_append_right _ (List.mem_append_right _ (List.mem_append_left _ ((List.mem_of_getElem? (i := 220) (by decide +kernel)))))) (by decide +kernel)
theorem m_404 : (Jvm.Cond.code ({ cls := "SharedEchoes", name := "echo", desc := "(II)I" } : Jvm.MethodName) prog_1_method_15_code (5 : Nat) (Option.some Jvm.ClassFile.FieldType.int)) ∈ LW := LW_in (List.mem_append_right _ (List.mem_append_right _ (List.mem_append_left _ ((List.mem_of_getElem? (i := 221) (by decide +kernel)))))) (by decide +kernel)
theorem m_405 : (Jvm.Cond.methodLink "SharedEchoes" (181 : Nat) ({ cls := "SharedEchoes$State", name := "takeOver", desc := "(LSharedEchoes$State;)V" } : Jvm.MethodName)) ∈ LW := LW_in (List.mem_append_right _ (List.mem_append_right _ (List.mem_append_left _ ((List.mem_of_getElem? (i := 222) (by decide +kernel)))))) (by decide +kernel)
theorem m_406 : (Jvm.Cond.methodLink "SharedEchoes" (184 : Nat) ({ cls := "SharedEchoes$Ring", name := "fillWithZeros", desc := "()V" } : Jvm.MethodName)) ∈ LW := LW_in (List.mem_append_right _ (List.mem_append_right _ (List.mem_append_left _ ((List.mem_of_getElem? (i := 223) (by decide +kernel)))))) (by decide +kernel)
theorem m_407 : (Jvm.Cond.instanceMethod ({ cls := "SharedEchoes$Ring", name := "fillWithZeros", desc := "()V" } : Jvm.MethodName)) ∈ LW := LW_in (List.mem_append_right _ (List.mem_append_right _ (List.mem_append_left _ ((List.mem_of_getElem? (i := 224) (by decide +kernel)))))) (by decide +kernel)
theorem m_408 : (Jvm.Cond.selects "SharedEchoes$Ring" ({ cls := "SharedEchoes$Ring", name := "fillWithZeros", desc := "()V" } : Jvm.MethodName) ({ cls := "SharedEchoes$Ring", name := "fillWithZeros", desc := "()V" } : Jvm.MethodName)) ∈ LW := LW_in (List.mem_append_right _ (List.mem_append_right _ (List.mem_append_left _ ((List.mem_of_getElem? (i := 225) (by decide +kernel)))))) (by decide +kernel)
theorem m_409 : (Jvm.Cond.code ({ cls := "SharedEchoes$Ring", name := "fillWithZeros", desc := "()V" } : Jvm.MethodName) prog_7_method_6_code (1 : Nat) (Option.none : Option Jvm.ClassFile.FieldType)) ∈ LW := LW_in (List.mem_append_right _ (List.mem_append_right _ (List.mem_append_left _ ((List.mem_of_getElem? (i := 226) (by decide +kernel)))))) (by decide +kernel)
theorem m_410 : (Jvm.Cond.methodLink "SharedEchoes$Ring" (31 : Nat) ({ cls := "java/util/Arrays", name := "fill", desc := "([II)V" } : Jvm.MethodName)) ∈ LW := LW_in (List.mem_append_right _ (List.mem_append_right _ (List.mem_append_left _ ((List.mem_of_getElem? (i := 227) (by decide +kernel)))))) (by decide +kernel)
theorem m_411 : (Jvm.Cond.static ({ cls := "java/util/Arrays", name := "fill", desc := "([II)V" } : Jvm.MethodName)) ∈ LW := LW_in (List.mem_append_right _ (List.mem_append_right _ (List.mem_append_left _ ((List.mem_of_getElem? (i := 228) (by decide +kernel)))))) (by decide +kernel)
theorem m_412 : (Jvm.Cond.code ({ cls := "java/util/Arrays", name := "fill", desc := "([II)V" } : Jvm.MethodName) prog_16_method_103_code (4 : Nat) (Option.none : Option Jvm.ClassFile.FieldType)) ∈ LW := LW_in (List.mem_append_right _ (List.mem_append_right _ (List.mem_append_left _ ((List.mem_of_getElem? (i := 229) (by decide +kernel)))))) (by decide +kernel)
theorem m_413 : (Jvm.Cond.methodLink "SharedEchoesLaw" (73 : Nat) ({ cls := "SharedEchoes", name := "quietAfter", desc := "(I)I" } : Jvm.MethodName)) ∈ LW := LW_in (List.mem_append_right _ (List.mem_append_right _ (List.mem_append_left _ ((List.mem_of_getElem? (i := 230) (by decide +kernel)))))) (by decide +kernel)
theorem m_414 : (Jvm.Cond.instanceMethod ({ cls := "SharedEchoes", name := "quietAfter", desc := "(I)I" } : Jvm.MethodName)) ∈ LW := LW_in (List.mem_append_right _ (List.mem_append_right _ (List.mem_append_left _ ((List.mem_of_getElem? (i := 231) (by decide +kernel)))))) (by decide +kernel)
theorem m_415 : (Jvm.Cond.selects "SharedEchoes" ({ cls := "SharedEchoes", name := "quietAfter", desc := "(I)I" } : Jvm.MethodName) ({ cls := "SharedEchoes", name := "quietAfter", desc := "(I)I" } : Jvm.MethodName)) ∈ LW := LW_in (List.mem_append_right _ (List.mem_append_right _ (List.mem_append_left _ ((List.mem_of_getElem? (i := 232) (by decide +kernel)))))) (by decide +kernel)
theorem m_416 : (Jvm.Cond.code ({ cls := "SharedEchoes", name := "quietAfter", desc := "(I)I" } : Jvm.MethodName) prog_1_method_16_code (6 : Nat) (Option.some Jvm.ClassFile.FieldType.int)) ∈ LW := LW_in (List.mem_append_right _ (List.mem_append_right _ (List.mem_append_left _ ((List.mem_of_getElem? (i := 233) (by decide +kernel)))))) (by decide +kernel)
theorem m_417 : (Jvm.Cond.methodLink "SharedEchoes" (187 : Nat) ({ cls := "SharedEchoes$Ring", name := "wordsAbove", desc := "(I)I" } : Jvm.MethodName)) ∈ LW := LW_in (List.mem_append_right _ (List.mem_append_right _ (List.mem_append_left _ ((List.mem_of_getElem? (i := 234) (by decide +kernel)))))) (by decide +kernel)
theorem m_418 : (Jvm.Cond.instanceMethod ({ cls := "SharedEchoes$Ring", name := "wordsAbove", desc := "(I)I" } : Jvm.MethodName)) ∈ LW := LW_in (List.mem_append_right _ (List.mem_append_right _ (List.mem_append_left _ ((List.mem_of_getElem? (i := 235) (by decide +kernel)))))) (by decide +kernel)
theorem m_419 : (Jvm.Cond.selects "SharedEchoes$Ring" ({ cls := "SharedEchoes$Ring", name := "wordsAbove", desc := "(I)I" } : Jvm.MethodName) ({ cls := "SharedEchoes$Ring", name := "wordsAbove", desc := "(I)I" } : Jvm.MethodName)) ∈ LW := LW_in (List.mem_append_right _ (List.mem_append_right _ (List.mem_append_left _ ((List.mem_of_getElem? (i := 236) (by decide +kernel)))))) (by decide +kernel)
theorem m_420 : (Jvm.Cond.code ({ cls := "SharedEchoes$Ring", name := "wordsAbove", desc := "(I)I" } : Jvm.MethodName) prog_7_method_7_code (4 : Nat) (Option.some Jvm.ClassFile.FieldType.int)) ∈ LW := LW_in (List.mem_append_right _ (List.mem_append_right _ (List.mem_append_left _ ((List.mem_of_getElem? (i := 237) (by decide +kernel)))))) (by decide +kernel)
theorem m_421 : (Jvm.Cond.methodLink "SharedEchoes$Ring" (37 : Nat) ({ cls := "SharedEchoes$Ring", name := "wordAt", desc := "(I)I" } : Jvm.MethodName)) ∈ LW := LW_in (List.mem_append_right _ (List.mem_append_right _ (List.mem_append_left _ ((List.mem_of_getElem? (i := 238) (by decide +kernel)))))) (by decide +kernel)
theorem m_422 : (Jvm.Cond.methodLink "SharedEchoes$Ring" (41 : Nat) ({ cls := "java/lang/Math", name := "abs", desc := "(I)I" } : Jvm.MethodName)) ∈ LW := LW_in (List.mem_append_right _ (List.mem_append_right _ (List.mem_append_left _ ((List.mem_of_getElem? (i := 239) (by decide +kernel)))))) (by decide +kernel)
theorem m_423 : (Jvm.Cond.methodLink "SharedEchoes" (190 : Nat) ({ cls := "SharedEchoes$State", name := "feedRing", desc := "(I)I" } : Jvm.MethodName)) ∈ LW := LW_in (List.mem_append_right _ (List.mem_append_right _ (List.mem_append_right _ (List.mem_append_left _ ((List.mem_of_getElem? (i := 0) (by decide +kernel))))))) (by decide +kernel)
theorem m_424 : (Jvm.Cond.instanceMethod ({ cls := "SharedEchoes$State", name := "feedRing", desc := "(I)I" } : Jvm.MethodName)) ∈ LW := LW_in (List.mem_append_right _ (List.mem_append_right _ (List.mem_append_right _ (List.mem_append_left _ ((List.mem_of_getElem? (i := 1) (by decide +kernel))))))) (by decide +kernel)
theorem m_425 : (Jvm.Cond.selects "SharedEchoes$State" ({ cls := "SharedEchoes$State", name := "feedRing", desc := "(I)I" } : Jvm.MethodName) ({ cls := "SharedEchoes$State", name := "feedRing", desc := "(I)I" } : Jvm.MethodName)) ∈ LW := LW_in (List.mem_append_right _ (List.mem_append_right _ (List.mem_append_right _ (List.mem_append_left _ ((List.mem_of_getElem? (i := 2) (by decide +kernel))))))) (by decide +kernel)
theorem m_426 : (Jvm.Cond.code ({ cls := "SharedEchoes$State", name := "feedRing", desc := "(I)I" } : Jvm.MethodName) prog_8_method_12_code (3 : Nat) (Option.some Jvm.ClassFile.FieldType.int)) ∈ LW := LW_in (List.mem_append_right _ (List.mem_append_right _ (List.mem_append_right _ (List.mem_append_left _ ((List.mem_of_getElem? (i := 3) (by decide +kernel))))))) (by decide +kernel)
theorem m_427 : (Jvm.Cond.methodLink "SharedEchoesLaw" (77 : Nat) ({ cls := "SharedEchoes", name := "loudest", desc := "()I" } : Jvm.MethodName)) ∈ LW := LW_in (List.mem_append_right _ (List.mem_append_right _ (List.mem_append_right _ (List.mem_append_left _ ((List.mem_of_getElem? (i := 4) (by decide +kernel))))))) (by decide +kernel)
theorem m_428 : (Jvm.Cond.instanceMethod ({ cls := "SharedEchoes", name := "loudest", desc := "()I" } : Jvm.MethodName)) ∈ LW := LW_in (List.mem_append_right _ (List.mem_append_right _ (List.mem_append_right _ (List.mem_append_left _ ((List.mem_of_getElem? (i := 5) (by decide +kernel))))))) (by decide +kernel)
theorem m_429 : (Jvm.Cond.selects "SharedEchoes" ({ cls := "SharedEchoes", name := "loudest", desc := "()I" } : Jvm.MethodName) ({ cls := "SharedEchoes", name := "loudest", desc := "()I" } : Jvm.MethodName)) ∈ LW := LW_in (List.mem_append_right _ (List.mem_append_right _ (List.mem_append_right _ (List.mem_append_left _ ((List.mem_of_getElem? (i := 6) (by decide +kernel))))))) (by decide +kernel)
theorem m_430 : (Jvm.Cond.code ({ cls := "SharedEchoes", name := "loudest", desc := "()I" } : Jvm.MethodName) prog_1_method_17_code (3 : Nat) (Option.some Jvm.ClassFile.FieldType.int)) ∈ LW := LW_in (List.mem_append_right _ (List.mem_append_right _ (List.mem_append_right _ (List.mem_append_left _ ((List.mem_of_getElem? (i := 7) (by decide +kernel))))))) (by decide +kernel)
theorem m_431 : (Jvm.Cond.methodLink "SharedEchoes" (201 : Nat) ({ cls := "SharedEchoes", name := "thousandths", desc := "(II)I" } : Jvm.MethodName)) ∈ LW := LW_in (List.mem_append_right _ (List.mem_append_right _ (List.mem_append_right _ (List.mem_append_left _ ((List.mem_of_getElem? (i := 8) (by decide +kernel))))))) (by decide +kernel)
theorem m_432 : (Jvm.Cond.methodLink "SharedEchoesLaw" (81 : Nat) ({ cls := "SharedEchoes", name := "safeGain", desc := "(II)I" } : Jvm.MethodName)) ∈ LW := LW_in (List.mem_append_right _ (List.mem_append_right _ (List.mem_append_right _ (List.mem_append_left _ ((List.mem_of_getElem? (i := 9) (by decide +kernel))))))) (by decide +kernel)
theorem m_433 : (Jvm.Cond.instanceMethod ({ cls := "SharedEchoes", name := "safeGain", desc := "(II)I" } : Jvm.MethodName)) ∈ LW := LW_in (List.mem_append_right _ (List.mem_append_right _ (List.mem_append_right _ (List.mem_append_left _ ((List.mem_of_getElem? (i := 10) (by decide +kernel))))))) (by decide +kernel)
theorem m_434 : (Jvm.Cond.selects "SharedEchoes" ({ cls := "SharedEchoes", name := "safeGain", desc := "(II)I" } : Jvm.MethodName) ({ cls := "SharedEchoes", name := "safeGain", desc := "(II)I" } : Jvm.MethodName)) ∈ LW := LW_in (List.mem_append_right _ (List.mem_append_right _ (List.mem_append_right _ (List.mem_append_left _ ((List.mem_of_getElem? (i := 11) (by decide +kernel))))))) (by decide +kernel)
theorem m_435 : (Jvm.Cond.code ({ cls := "SharedEchoes", name := "safeGain", desc := "(II)I" } : Jvm.MethodName) prog_1_method_18_code (7 : Nat) (Option.some Jvm.ClassFile.FieldType.int)) ∈ LW := LW_in (List.mem_append_right _ (List.mem_append_right _ (List.mem_append_right _ (List.mem_append_left _ ((List.mem_of_getElem? (i := 12) (by decide +kernel))))))) (by decide +kernel)
theorem m_436 : (Jvm.Cond.methodLink "SharedEchoes" (204 : Nat) ({ cls := "SharedEchoes", name := "wouldBeQuiet", desc := "(III)Z" } : Jvm.MethodName)) ∈ LW := LW_in (List.mem_append_right _ (List.mem_append_right _ (List.mem_append_right _ (List.mem_append_left _ ((List.mem_of_getElem? (i := 13) (by decide +kernel))))))) (by decide +kernel)
theorem m_437 : (Jvm.Cond.instanceMethod ({ cls := "SharedEchoes", name := "wouldBeQuiet", desc := "(III)Z" } : Jvm.MethodName)) ∈ LW := LW_in (List.mem_append_right _ (List.mem_append_right _ (List.mem_append_right _ (List.mem_append_left _ ((List.mem_of_getElem? (i := 15) (by decide +kernel))))))) (by decide +kernel)
theorem m_438 : (Jvm.Cond.code ({ cls := "SharedEchoes", name := "wouldBeQuiet", desc := "(III)Z" } : Jvm.MethodName) prog_1_method_37_code (5 : Nat) (Option.some Jvm.ClassFile.FieldType.boolean)) ∈ LW := LW_in (List.mem_append_right _ (List.mem_append_right _ (List.mem_append_right _ (List.mem_append_left _ ((List.mem_of_getElem? (i := 16) (by decide +kernel))))))) (by decide +kernel)
theorem m_439 : (Jvm.Cond.methodLink "SharedEchoesLaw" (85 : Nat) ({ cls := "SharedEchoes", name := "count", desc := "(I)I" } : Jvm.MethodName)) ∈ LW := LW_in (List.mem_append_right _ (List.mem_append_right _ (List.mem_append_right _ (List.mem_append_left _ ((List.mem_of_getElem? (i := 17) (by decide +kernel))))))) (by decide +kernel)
theorem m_440 : (Jvm.Cond.instanceMethod ({ cls := "SharedEchoes", name := "count", desc := "(I)I" } : Jvm.MethodName)) ∈ LW := LW_in (List.mem_append_right _ (List.mem_append_right _ (List.mem_append_right _ (List.mem_append_left _ ((List.mem_of_getElem? (i := 18) (by decide +kernel))))))) (by decide +kernel)
theorem m_441 : (Jvm.Cond.selects "SharedEchoes" ({ cls := "SharedEchoes", name := "count", desc := "(I)I" } : Jvm.MethodName) ({ cls := "SharedEchoes", name := "count", desc := "(I)I" } : Jvm.MethodName)) ∈ LW := LW_in (List.mem_append_right _ (List.mem_append_right _ (List.mem_append_right _ (List.mem_append_left _ ((List.mem_of_getElem? (i := 19) (by decide +kernel))))))) (by decide +kernel)
theorem m_442 : (Jvm.Cond.code ({ cls := "SharedEchoes", name := "count", desc := "(I)I" } : Jvm.MethodName) prog_1_method_19_code (2 : Nat) (Option.some Jvm.ClassFile.FieldType.int)) ∈ LW := LW_in (List.mem_append_right _ (List.mem_append_right _ (List.mem_append_right _ (List.mem_append_left _ ((List.mem_of_getElem? (i := 20) (by decide +kernel))))))) (by decide +kernel)
theorem m_443 : (Jvm.Cond.methodLink "SharedEchoes" (207 : Nat) ({ cls := "SharedEchoes", name := "tapsOn", desc := "()I" } : Jvm.MethodName)) ∈ LW := LW_in (List.mem_append_right _ (List.mem_append_right _ (List.mem_append_right _ (List.mem_append_left _ ((List.mem_of_getElem? (i := 21) (by decide +kernel))))))) (by decide +kernel)
theorem m_444 : (Jvm.Cond.instanceMethod ({ cls := "SharedEchoes", name := "tapsOn", desc := "()I" } : Jvm.MethodName)) ∈ LW := LW_in (List.mem_append_right _ (List.mem_append_right _ (List.mem_append_right _ (List.mem_append_left _ ((List.mem_of_getElem? (i := 23) (by decide +kernel))))))) (by decide +kernel)
theorem m_445 : (Jvm.Cond.code ({ cls := "SharedEchoes", name := "tapsOn", desc := "()I" } : Jvm.MethodName) prog_1_method_38_code (3 : Nat) (Option.some Jvm.ClassFile.FieldType.int)) ∈ LW := LW_in (List.mem_append_right _ (List.mem_append_right _ (List.mem_append_right _ (List.mem_append_left _ ((List.mem_of_getElem? (i := 24) (by decide +kernel))))))) (by decide +kernel)
theorem m_446 : (Jvm.Cond.methodLink "SharedEchoes" (210 : Nat) ({ cls := "SharedEchoes", name := "tapsLost", desc := "()I" } : Jvm.MethodName)) ∈ LW := LW_in (List.mem_append_right _ (List.mem_append_right _ (List.mem_append_right _ (List.mem_append_left _ ((List.mem_of_getElem? (i := 25) (by decide +kernel))))))) (by decide +kernel)
theorem m_447 : (Jvm.Cond.instanceMethod ({ cls := "SharedEchoes", name := "tapsLost", desc := "()I" } : Jvm.MethodName)) ∈ LW := LW_in (List.mem_append_right _ (List.mem_append_right _ (List.mem_append_right _ (List.mem_append_left _ ((List.mem_of_getElem? (i := 27) (by decide +kernel))))))) (by decide +kernel)
theorem m_448 : (Jvm.Cond.code ({ cls := "SharedEchoes", name := "tapsLost", desc := "()I" } : Jvm.MethodName) prog_1_method_39_code (3 : Nat) (Option.some Jvm.ClassFile.FieldType.int)) ∈ LW := LW_in (List.mem_append_right _ (List.mem_append_right _ (List.mem_append_right _ (List.mem_append_left _ ((List.mem_of_getElem? (i := 28) (by decide +kernel))))))) (by decide +kernel)
theorem m_449 : (Jvm.Cond.methodLink "SharedEchoes" (213 : Nat) ({ cls := "SharedEchoes$Ring", name := "sumOfAmounts", desc := "()I" } : Jvm.MethodName)) ∈ LW := LW_in (List.mem_append_right _ (List.mem_append_right _ (List.mem_append_right _ (List.mem_append_left _ ((List.mem_of_getElem? (i := 29) (by decide +kernel))))))) (by decide +kernel)
theorem m_450 : (Jvm.Cond.instanceMethod ({ cls := "SharedEchoes$Ring", name := "sumOfAmounts", desc := "()I" } : Jvm.MethodName)) ∈ LW := LW_in (List.mem_append_right _ (List.mem_append_right _ (List.mem_append_right _ (List.mem_append_left _ ((List.mem_of_getElem? (i := 30) (by decide +kernel))))))) (by decide +kernel)
theorem m_451 : (Jvm.Cond.selects "SharedEchoes$Ring" ({ cls := "SharedEchoes$Ring", name := "sumOfAmounts", desc := "()I" } : Jvm.MethodName) ({ cls := "SharedEchoes$Ring", name := "sumOfAmounts", desc := "()I" } : Jvm.MethodName)) ∈ LW := LW_in (List.mem_append_right _ (List.mem_append_right _ (List.mem_append_right _ (List.mem_append_left _ ((List.mem_of_getElem? (i := 31) (by decide +kernel))))))) (by decide +kernel)
theorem m_452 : (Jvm.Cond.code ({ cls := "SharedEchoes$Ring", name := "sumOfAmounts", desc := "()I" } : Jvm.MethodName) prog_7_method_8_code (3 : Nat) (Option.some Jvm.ClassFile.FieldType.int)) ∈ LW := LW_in (List.mem_append_right _ (List.mem_append_right _ (List.mem_append_right _ (List.mem_append_left _ ((List.mem_of_getElem? (i := 32) (by decide +kernel))))))) (by decide +kernel)
theorem m_453 : (Jvm.Cond.methodLink "SharedEchoesLaw" (89 : Nat) ({ cls := "SharedEchoes", name := "undo", desc := "()I" } : Jvm.MethodName)) ∈ LW := LW_in (List.mem_append_right _ (List.mem_append_right _ (List.mem_append_right _ (List.mem_append_left _ ((List.mem_of_getElem? (i := 33) (by decide +kernel))))))) (by decide +kernel)
theorem m_454 : (Jvm.Cond.instanceMethod ({ cls := "SharedEchoes", name := "undo", desc := "()I" } : Jvm.MethodName)) ∈ LW := LW_in (List.mem_append_right _ (List.mem_append_right _ (List.mem_append_right _ (List.mem_append_left _ ((List.mem_of_getElem? (i := 34) (by decide +kernel))))))) (by decide +kernel)
theorem m_455 : (Jvm.Cond.selects "SharedEchoes" ({ cls := "SharedEchoes", name := "undo", desc := "()I" } : Jvm.MethodName) ({ cls := "SharedEchoes", name := "undo", desc := "()I" } : Jvm.MethodName)) ∈ LW := LW_in (List.mem_append_right _ (List.mem_append_right _ (List.mem_append_right _ (List.mem_append_left _ ((List.mem_of_getElem? (i := 35) (by decide +kernel))))))) (by decide +kernel)
theorem m_456 : (Jvm.Cond.code ({ cls := "SharedEchoes", name := "undo", desc := "()I" } : Jvm.MethodName) prog_1_method_20_code (1 : Nat) (Option.some Jvm.ClassFile.FieldType.int)) ∈ LW := LW_in (List.mem_append_right _ (List.mem_append_right _ (List.mem_append_right _ (List.mem_append_left _ ((List.mem_of_getElem? (i := 36) (by decide +kernel))))))) (by decide +kernel)
theorem m_457 : (Jvm.Cond.methodLink "SharedEchoes" (224 : Nat) ({ cls := "SharedEchoes$History", name := "restoreInto", desc := "(LSharedEchoes$State;)V" } : Jvm.MethodName)) ∈ LW := LW_in (List.mem_append_right _ (List.mem_append_right _ (List.mem_append_right _ (List.mem_append_left _ ((List.mem_of_getElem? (i := 37) (by decide +kernel))))))) (by decide +kernel)
theorem m_458 : (Jvm.Cond.instanceMethod ({ cls := "SharedEchoes$History", name := "restoreInto", desc := "(LSharedEchoes$State;)V" } : Jvm.MethodName)) ∈ LW := LW_in (List.mem_append_right _ (List.mem_append_right _ (List.mem_append_right _ (List.mem_append_left _ ((List.mem_of_getElem? (i := 38) (by decide +kernel))))))) (by decide +kernel)
theorem m_459 : (Jvm.Cond.selects "SharedEchoes$History" ({ cls := "SharedEchoes$History", name := "restoreInto", desc := "(LSharedEchoes$State;)V" } : Jvm.MethodName) ({ cls := "SharedEchoes$History", name := "restoreInto", desc := "(LSharedEchoes$State;)V" } : Jvm.MethodName)) ∈ LW := LW_in (List.mem_append_right _ (List.mem_append_right _ (List.mem_append_right _ (List.mem_append_left _ ((List.mem_of_getElem? (i := 39) (by decide +kernel))))))) (by decide +kernel)
theorem m_460 : (Jvm.Cond.code ({ cls := "SharedEchoes$History", name := "restoreInto", desc := "(LSharedEchoes$State;)V" } : Jvm.MethodName) prog_3_method_4_code (3 : Nat) (Option.none : Option Jvm.ClassFile.FieldType)) ∈ LW := LW_in (List.mem_append_right _ (List.mem_append_right _ (List.mem_append_right _ (List.mem_append_left _ ((List.mem_of_getElem? (i := 40) (by decide +kernel))))))) (by decide +kernel)
theorem m_461 : (Jvm.Cond.methodLink "SharedEchoesLaw" (93 : Nat) ({ cls := "SharedEchoes", name := "type", desc := "(I)I" } : Jvm.MethodName)) ∈ LW := LW_in (List.mem_append_right _ (List.mem_append_right _ (List.mem_append_right _ (List.mem_append_left _ ((List.mem_of_getElem? (i := 41) (by decide +kernel))))))) (by decide +kernel)
theorem m_462 : (Jvm.Cond.instanceMethod ({ cls := "SharedEchoes", name := "type", desc := "(I)I" } : Jvm.MethodName)) ∈ LW := LW_in (List.mem_append_right _ (List.mem_append_right _ (List.mem_append_right _ (List.mem_append_left _ ((List.mem_of_getElem? (i := 42) (by decide +kernel))))))) (by decide +kernel)
theorem m_463 : (Jvm.Cond.selects "SharedEchoes" ({ cls := "SharedEchoes", name := "type", desc := "(I)I" } : Jvm.MethodName) ({ cls := "SharedEchoes", name := "type", desc := "(I)I" } : Jvm.MethodName)) ∈ LW := LW_in (List.mem_append_right _ (List.mem_append_right _ (List.mem_append_right _ (List.mem_append_left _ ((List.mem_of_getElem? (i := 43) (by decide +kernel))))))) (by decide +kernel)
theorem m_464 : (Jvm.Cond.code ({ cls := "SharedEchoes", name := "type", desc := "(I)I" } : Jvm.MethodName) prog_1_method_21_code (2 : Nat) (Option.some Jvm.ClassFile.FieldType.int)) ∈ LW := LW_in (List.mem_append_right _ (List.mem_append_right _ (List.mem_append_right _ (List.mem_append_left _ ((List.mem_of_getElem? (i := 44) (by decide +kernel))))))) (by decide +kernel)
theorem m_465 : (Jvm.Cond.methodLink "SharedEchoes" (228 : Nat) ({ cls := "SharedEchoes$Text", name := "append", desc := "(I)V" } : Jvm.MethodName)) ∈ LW := LW_in (List.mem_append_right _ (List.mem_append_right _ (List.mem_append_right _ (List.mem_append_left _ ((List.mem_of_getElem? (i := 45) (by decide +kernel))))))) (by decide +kernel)
theorem m_466 : (Jvm.Cond.instanceMethod ({ cls := "SharedEchoes$Text", name := "append", desc := "(I)V" } : Jvm.MethodName)) ∈ LW := LW_in (List.mem_append_right _ (List.mem_append_right _ (List.mem_append_right _ (List.mem_append_left _ ((List.mem_of_getElem? (i := 46) (by decide +kernel))))))) (by decide +kernel)
theorem m_467 : (Jvm.Cond.selects "SharedEchoes$Text" ({ cls := "SharedEchoes$Text", name := "append", desc := "(I)V" } : Jvm.MethodName) ({ cls := "SharedEchoes$Text", name := "append", desc := "(I)V" } : Jvm.MethodName)) ∈ LW := LW_in (List.mem_append_right _ (List.mem_append_right _ (List.mem_append_right _ (List.mem_append_left _ ((List.mem_of_getElem? (i := 47) (by decide +kernel))))))) (by decide +kernel)
theorem m_468 : (Jvm.Cond.code ({ cls := "SharedEchoes$Text", name := "append", desc := "(I)V" } : Jvm.MethodName) prog_9_method_3_code (2 : Nat) (Option.none : Option Jvm.ClassFile.FieldType)) ∈ LW := LW_in (List.mem_append_right _ (List.mem_append_right _ (List.mem_append_right _ (List.mem_append_left _ ((List.mem_of_getElem? (i := 48) (by decide +kernel))))))) (by decide +kernel)
theorem m_469 : (Jvm.Cond.methodLink "SharedEchoesLaw" (97 : Nat) ({ cls := "SharedEchoes", name := "clearText", desc := "()I" } : Jvm.MethodName)) ∈ LW := LW_in (List.mem_append_right _ (List.mem_append_right _ (List.mem_append_right _ (List.mem_append_left _ ((List.mem_of_getElem? (i := 49) (by decide +kernel))))))) (by decide +kernel)
theorem m_470 : (Jvm.Cond.instanceMethod ({ cls := "SharedEchoes", name := "clearText", desc := "()I" } : Jvm.MethodName)) ∈ LW := LW_in (List.mem_append_right _ (List.mem_append_right _ (List.mem_append_right _ (List.mem_append_left _ ((List.mem_of_getElem? (i := 50) (by decide +kernel))))))) (by decide +kernel)
theorem m_471 : (Jvm.Cond.selects "SharedEchoes" ({ cls := "SharedEchoes", name := "clearText", desc := "()I" } : Jvm.MethodName) ({ cls := "SharedEchoes", name := "clearText", desc := "()I" } : Jvm.MethodName)) ∈ LW := LW_in (List.mem_append_right _ (List.mem_append_right _ (List.mem_append_right _ (List.mem_append_left _ ((List.mem_of_getElem? (i := 51) (by decide +kernel))))))) (by decide +kernel)
theorem m_472 : (Jvm.Cond.code ({ cls := "SharedEchoes", name := "clearText", desc := "()I" } : Jvm.MethodName) prog_1_method_22_code (2 : Nat) (Option.some Jvm.ClassFile.FieldType.int)) ∈ LW := LW_in (List.mem_append_right _ (List.mem_append_right _ (List.mem_append_right _ (List.mem_append_left _ ((List.mem_of_getElem? (i := 52) (by decide +kernel))))))) (by decide +kernel)
theorem m_473 : (Jvm.Cond.methodLink "SharedEchoesLaw" (101 : Nat) ({ cls := "SharedEchoes", name := "fault", desc := "(I)I" } : Jvm.MethodName)) ∈ LW := LW_in (List.mem_append_right _ (List.mem_append_right _ (List.mem_append_right _ (List.mem_append_left _ ((List.mem_of_getElem? (i := 53) (by decide +kernel))))))) (by decide +kernel)
theorem m_474 : (Jvm.Cond.instanceMethod ({ cls := "SharedEchoes", name := "fault", desc := "(I)I" } : Jvm.MethodName)) ∈ LW := LW_in (List.mem_append_right _ (List.mem_append_right _ (List.mem_append_right _ (List.mem_append_left _ ((List.mem_of_getElem? (i := 54) (by decide +kernel))))))) (by decide +kernel)
theorem m_475 : (Jvm.Cond.selects "SharedEchoes" ({ cls := "SharedEchoes", name := "fault", desc := "(I)I" } : Jvm.MethodName) ({ cls := "SharedEchoes", name := "fault", desc := "(I)I" } : Jvm.MethodName)) ∈ LW := LW_in (List.mem_append_right _ (List.mem_append_right _ (List.mem_append_right _ (List.mem_append_left _ ((List.mem_of_getElem? (i := 55) (by decide +kernel))))))) (by decide +kernel)
theorem m_476 : (Jvm.Cond.code ({ cls := "SharedEchoes", name := "fault", desc := "(I)I" } : Jvm.MethodName) prog_1_method_23_code (2 : Nat) (Option.some Jvm.ClassFile.FieldType.int)) ∈ LW := LW_in (List.mem_append_right _ (List.mem_append_right _ (List.mem_append_right _ (List.mem_append_left _ ((List.mem_of_getElem? (i := 56) (by decide +kernel))))))) (by decide +kernel)
theorem m_477 : (Jvm.Cond.methodLink "SharedEchoes" (231 : Nat) ({ cls := "SharedEchoes", name := "findFault", desc := "()V" } : Jvm.MethodName)) ∈ LW := LW_in (List.mem_append_right _ (List.mem_append_right _ (List.mem_append_right _ (List.mem_append_left _ ((List.mem_of_getElem? (i := 57) (by decide +kernel))))))) (by decide +kernel)
theorem m_478 : (Jvm.Cond.instanceMethod ({ cls := "SharedEchoes", name := "findFault", desc := "()V" } : Jvm.MethodName)) ∈ LW := LW_in (List.mem_append_right _ (List.mem_append_right _ (List.mem_append_right _ (List.mem_append_left _ ((List.mem_of_getElem? (i := 59) (by decide +kernel))))))) (by decide +kernel)
theorem m_479 : (Jvm.Cond.code ({ cls := "SharedEchoes", name := "findFault", desc := "()V" } : Jvm.MethodName) prog_1_method_40_code (5 : Nat) (Option.none : Option Jvm.ClassFile.FieldType)) ∈ LW := LW_in (List.mem_append_right _ (List.mem_append_right _ (List.mem_append_right _ (List.mem_append_left _ ((List.mem_of_getElem? (i := 60) (by decide +kernel))))))) (by decide +kernel)
theorem m_480 : (Jvm.Cond.methodLink "SharedEchoes" (247 : Nat) ({ cls := "SharedEchoes$Order", name := "read", desc := "(LSharedEchoes$Text;I)V" } : Jvm.MethodName)) ∈ LW := LW_in (List.mem_append_right _ (List.mem_append_right _ (List.mem_append_right _ (List.mem_append_left _ ((List.mem_of_getElem? (i := 61) (by decide +kernel))))))) (by decide +kernel)
theorem m_481 : (Jvm.Cond.instanceMethod ({ cls := "SharedEchoes$Order", name := "read", desc := "(LSharedEchoes$Text;I)V" } : Jvm.MethodName)) ∈ LW := LW_in (List.mem_append_right _ (List.mem_append_right _ (List.mem_append_right _ (List.mem_append_left _ ((List.mem_of_getElem? (i := 62) (by decide +kernel))))))) (by decide +kernel)
theorem m_482 : (Jvm.Cond.selects "SharedEchoes$Order" ({ cls := "SharedEchoes$Order", name := "read", desc := "(LSharedEchoes$Text;I)V" } : Jvm.MethodName) ({ cls := "SharedEchoes$Order", name := "read", desc := "(LSharedEchoes$Text;I)V" } : Jvm.MethodName)) ∈ LW := LW_in (List.mem_append_right _ (List.mem_append_right _ (List.mem_append_right _ (List.mem_append_left _ ((List.mem_of_getElem? (i := 63) (by decide +kernel))))))) (by decide +kernel)
theorem m_483 : (Jvm.Cond.code ({ cls := "SharedEchoes$Order", name := "read", desc := "(LSharedEchoes$Text;I)V" } : Jvm.MethodName) prog_5_method_3_code (6 : Nat) (Option.none : Option Jvm.ClassFile.FieldType)) ∈ LW := LW_in (List.mem_append_right _ (List.mem_append_right _ (List.mem_append_right _ (List.mem_append_left _ ((List.mem_of_getElem? (i := 64) (by decide +kernel))))))) (by decide +kernel)
theorem m_484 : (Jvm.Cond.methodLink "SharedEchoes$Order" (15 : Nat) ({ cls := "SharedEchoes$Text", name := "characterAt", desc := "(I)I" } : Jvm.MethodName)) ∈ LW := LW_in (List.mem_append_right _ (List.mem_append_right _ (List.mem_append_right _ (List.mem_append_left _ ((List.mem_of_getElem? (i := 65) (by decide +kernel))))))) (by decide +kernel)
theorem m_485 : (Jvm.Cond.instanceMethod ({ cls := "SharedEchoes$Text", name := "characterAt", desc := "(I)I" } : Jvm.MethodName)) ∈ LW := LW_in (List.mem_append_right _ (List.mem_append_right _ (List.mem_append_right _ (List.mem_append_left _ ((List.mem_of_getElem? (i := 66) (by decide +kernel))))))) (by decide +kernel)
theorem m_486 : (Jvm.Cond.selects "SharedEchoes$Text" ({ cls := "SharedEchoes$Text", name := "characterAt", desc := "(I)I" } : Jvm.MethodName) ({ cls := "SharedEchoes$Text", name := "characterAt", desc := "(I)I" } : Jvm.MethodName)) ∈ LW := LW_in (List.mem_append_right _ (List.mem_append_right _ (List.mem_append_right _ (List.mem_append_left _ ((List.mem_of_getElem? (i := 67) (by decide +kernel))))))) (by decide +kernel)
theorem m_487 : (Jvm.Cond.code ({ cls := "SharedEchoes$Text", name := "characterAt", desc := "(I)I" } : Jvm.MethodName) prog_9_method_2_code (2 : Nat) (Option.some Jvm.ClassFile.FieldType.int)) ∈ LW := LW_in (List.mem_append_right _ (List.mem_append_right _ (List.mem_append_right _ (List.mem_append_left _ ((List.mem_of_getElem? (i := 68) (by decide +kernel))))))) (by decide +kernel)
theorem m_488 : (Jvm.Cond.methodLink "SharedEchoes$Order" (28 : Nat) ({ cls := "SharedEchoes$Order", name := "numbersOfKind", desc := "()I" } : Jvm.MethodName)) ∈ LW := LW_in (List.mem_append_right _ (List.mem_append_right _ (List.mem_append_right _ (List.mem_append_left _ ((List.mem_of_getElem? (i := 69) (by decide +kernel))))))) (by decide +kernel)
theorem m_489 : (Jvm.Cond.instanceMethod ({ cls := "SharedEchoes$Order", name := "numbersOfKind", desc := "()I" } : Jvm.MethodName)) ∈ LW := LW_in (List.mem_append_right _ (List.mem_append_right _ (List.mem_append_right _ (List.mem_append_left _ ((List.mem_of_getElem? (i := 71) (by decide +kernel))))))) (by decide +kernel)
theorem m_490 : (Jvm.Cond.code ({ cls := "SharedEchoes$Order", name := "numbersOfKind", desc := "()I" } : Jvm.MethodName) prog_5_method_4_code (1 : Nat) (Option.some Jvm.ClassFile.FieldType.int)) ∈ LW := LW_in (List.mem_append_right _ (List.mem_append_right _ (List.mem_append_right _ (List.mem_append_left _ ((List.mem_of_getElem? (i := 72) (by decide +kernel))))))) (by decide +kernel)
theorem m_491 : (Jvm.Cond.methodLink "SharedEchoes$Order" (36 : Nat) ({ cls := "SharedEchoes$Order", name := "readNumber", desc := "(LSharedEchoes$Text;IZ)V" } : Jvm.MethodName)) ∈ LW := LW_in (List.mem_append_right _ (List.mem_append_right _ (List.mem_append_right _ (List.mem_append_left _ ((List.mem_of_getElem? (i := 73) (by decide +kernel))))))) (by decide +kernel)
theorem m_492 : (Jvm.Cond.instanceMethod ({ cls := "SharedEchoes$Order", name := "readNumber", desc := "(LSharedEchoes$Text;IZ)V" } : Jvm.MethodName)) ∈ LW := LW_in (List.mem_append_right _ (List.mem_append_right _ (List.mem_append_right _ (List.mem_append_left _ ((List.mem_of_getElem? (i := 75) (by decide +kernel))))))) (by decide +kernel)
theorem m_493 : (Jvm.Cond.code ({ cls := "SharedEchoes$Order", name := "readNumber", desc := "(LSharedEchoes$Text;IZ)V" } : Jvm.MethodName) prog_5_method_5_code (7 : Nat) (Option.none : Option Jvm.ClassFile.FieldType)) ∈ LW := LW_in (List.mem_append_right _ (List.mem_append_right _ (List.mem_append_right _ (List.mem_append_left _ ((List.mem_of_getElem? (i := 76) (by decide +kernel))))))) (by decide +kernel)
theorem m_494 : (Jvm.Cond.methodLink "SharedEchoes$Order" (44 : Nat) ({ cls := "SharedEchoes$Order", name := "isDigit", desc := "(I)Z" } : Jvm.MethodName)) ∈ LW := LW_in (List.mem_append_right _ (List.mem_append_right _ (List.mem_append_right _ (List.mem_append_left _ ((List.mem_of_getElem? (i := 77) (by decide +kernel))))))) (by decide +kernel)
theorem m_495 : (Jvm.Cond.static ({ cls := "SharedEchoes$Order", name := "isDigit", desc := "(I)Z" } : Jvm.MethodName)) ∈ LW := LW_in (List.mem_append_right _ (List.mem_append_right _ (List.mem_append_right _ (List.mem_append_left _ ((List.mem_of_getElem? (i := 78) (by decide +kernel))))))) (by decide +kernel)
theorem m_496 : (Jvm.Cond.code ({ cls := "SharedEchoes$Order", name := "isDigit", desc := "(I)Z" } : Jvm.MethodName) prog_5_method_7_code (1 : Nat) (Option.some Jvm.ClassFile.FieldType.boolean)) ∈ LW := LW_in (List.mem_append_right _ (List.mem_append_right _ (List.mem_append_right _ (List.mem_append_left _ ((List.mem_of_getElem? (i := 79) (by decide +kernel))))))) (by decide +kernel)
theorem m_497 : (Jvm.Cond.methodLink "SharedEchoes$Order" (40 : Nat) ({ cls := "SharedEchoes$Order", name := "readSign", desc := "(LSharedEchoes$Text;I)V" } : Jvm.MethodName)) ∈ LW := LW_in (List.mem_append_right _ (List.mem_append_right _ (List.mem_append_right _ (List.mem_append_left _ ((List.mem_of_getElem? (i := 80) (by decide +kernel))))))) (by decide +kernel)
theorem m_498 : (Jvm.Cond.instanceMethod ({ cls := "SharedEchoes$Order", name := "readSign", desc := "(LSharedEchoes$Text;I)V" } : Jvm.MethodName)) ∈ LW := LW_in (List.mem_append_right _ (List.mem_append_right _ (List.mem_append_right _ (List.mem_append_left _ ((List.mem_of_getElem? (i := 82) (by decide +kernel))))))) (by decide +kernel)
theorem m_499 : (Jvm.Cond.code ({ cls := "SharedEchoes$Order", name := "readSign", desc := "(LSharedEchoes$Text;I)V" } : Jvm.MethodName) prog_5_method_6_code (3 : Nat) (Option.none : Option Jvm.ClassFile.FieldType)) ∈ LW := LW_in (List.mem_append_right _ (List.mem_append_right _ (List.mem_append_right _ (List.mem_append_left _ ((List.mem_of_getElem? (i := 83) (by decide +kernel))))))) (by decide +kernel)
theorem m_500 : (Jvm.Cond.methodLink "SharedEchoes" (263 : Nat) ({ cls := "SharedEchoes$Fault", name := "put", desc := "(III)V" } : Jvm.MethodName)) ∈ LW := LW_in (List.mem_append_right _ (List.mem_append_right _ (List.mem_append_right _ (List.mem_append_left _ ((List.mem_of_getElem? (i := 84) (by decide +kernel))))))) (by decide +kernel)
theorem m_501 : (Jvm.Cond.instanceMethod ({ cls := "SharedEchoes$Fault", name := "put", desc := "(III)V" } : Jvm.MethodName)) ∈ LW := LW_in (List.mem_append_right _ (List.mem_append_right _ (List.mem_append_right _ (List.mem_append_left _ ((List.mem_of_getElem? (i := 85) (by decide +kernel))))))) (by decide +kernel)
theorem m_502 : (Jvm.Cond.selects "SharedEchoes$Fault" ({ cls := "SharedEchoes$Fault", name := "put", desc := "(III)V" } : Jvm.MethodName) ({ cls := "SharedEchoes$Fault", name := "put", desc := "(III)V" } : Jvm.MethodName)) ∈ LW := LW_in (List.mem_append_right _ (List.mem_append_right _ (List.mem_append_right _ (List.mem_append_left _ ((List.mem_of_getElem? (i := 86) (by decide +kernel))))))) (by decide +kernel)
theorem m_503 : (Jvm.Cond.code ({ cls := "SharedEchoes$Fault", name := "put", desc := "(III)V" } : Jvm.MethodName) prog_2_method_2_code (4 : Nat) (Option.none : Option Jvm.ClassFile.FieldType)) ∈ LW := LW_in (List.mem_append_right _ (List.mem_append_right _ (List.mem_append_right _ (List.mem_append_left _ ((List.mem_of_getElem? (i := 87) (by decide +kernel))))))) (by decide +kernel)
theorem m_504 : (Jvm.Cond.methodLink "SharedEchoes" (266 : Nat) ({ cls := "SharedEchoes", name := "orderError", desc := "(I)I" } : Jvm.MethodName)) ∈ LW := LW_in (List.mem_append_right _ (List.mem_append_right _ (List.mem_append_right _ (List.mem_append_left _ ((List.mem_of_getElem? (i := 88) (by decide +kernel))))))) (by decide +kernel)
theorem m_505 : (Jvm.Cond.instanceMethod ({ cls := "SharedEchoes", name := "orderError", desc := "(I)I" } : Jvm.MethodName)) ∈ LW := LW_in (List.mem_append_right _ (List.mem_append_right _ (List.mem_append_right _ (List.mem_append_left _ ((List.mem_of_getElem? (i := 90) (by decide +kernel))))))) (by decide +kernel)
theorem m_506 : (Jvm.Cond.code ({ cls := "SharedEchoes", name := "orderError", desc := "(I)I" } : Jvm.MethodName) prog_1_method_41_code (4 : Nat) (Option.some Jvm.ClassFile.FieldType.int)) ∈ LW := LW_in (List.mem_append_right _ (List.mem_append_right _ (List.mem_append_right _ (List.mem_append_left _ ((List.mem_of_getElem? (i := 91) (by decide +kernel))))))) (by decide +kernel)
theorem m_507 : (Jvm.Cond.methodLink "SharedEchoes" (272 : Nat) ({ cls := "SharedEchoes$Order", name := "numberAt", desc := "(I)I" } : Jvm.MethodName)) ∈ LW := LW_in (List.mem_append_right _ (List.mem_append_right _ (List.mem_append_right _ (List.mem_append_left _ ((List.mem_of_getElem? (i := 92) (by decide +kernel))))))) (by decide +kernel)
theorem m_508 : (Jvm.Cond.instanceMethod ({ cls := "SharedEchoes$Order", name := "numberAt", desc := "(I)I" } : Jvm.MethodName)) ∈ LW := LW_in (List.mem_append_right _ (List.mem_append_right _ (List.mem_append_right _ (List.mem_append_left _ ((List.mem_of_getElem? (i := 93) (by decide +kernel))))))) (by decide +kernel)
theorem m_509 : (Jvm.Cond.selects "SharedEchoes$Order" ({ cls := "SharedEchoes$Order", name := "numberAt", desc := "(I)I" } : Jvm.MethodName) ({ cls := "SharedEchoes$Order", name := "numberAt", desc := "(I)I" } : Jvm.MethodName)) ∈ LW := LW_in (List.mem_append_right _ (List.mem_append_right _ (List.mem_append_right _ (List.mem_append_left _ ((List.mem_of_getElem? (i := 94) (by decide +kernel))))))) (by decide +kernel)
theorem m_510 : (Jvm.Cond.code ({ cls := "SharedEchoes$Order", name := "numberAt", desc := "(I)I" } : Jvm.MethodName) prog_5_method_2_code (2 : Nat) (Option.some Jvm.ClassFile.FieldType.int)) ∈ LW := LW_in (List.mem_append_right _ (List.mem_append_right _ (List.mem_append_right _ (List.mem_append_left _ ((List.mem_of_getElem? (i := 95) (by decide +kernel))))))) (by decide +kernel)
theorem m_511 : (Jvm.Cond.methodLink "SharedEchoes" (269 : Nat) ({ cls := "SharedEchoes", name := "wordsThatGo", desc := "()I" } : Jvm.MethodName)) ∈ LW := LW_in (List.mem_append_right _ (List.mem_append_right _ (List.mem_append_right _ (List.mem_append_left _ ((List.mem_of_getElem? (i := 96) (by decide +kernel))))))) (by decide +kernel)
theorem m_512 : (Jvm.Cond.instanceMethod ({ cls := "SharedEchoes", name := "wordsThatGo", desc := "()I" } : Jvm.MethodName)) ∈ LW := LW_in (List.mem_append_right _ (List.mem_append_right _ (List.mem_append_right _ (List.mem_append_left _ ((List.mem_of_getElem? (i := 98) (by decide +kernel))))))) (by decide +kernel)
theorem m_513 : (Jvm.Cond.code ({ cls := "SharedEchoes", name := "wordsThatGo", desc := "()I" } : Jvm.MethodName) prog_1_method_42_code (2 : Nat) (Option.some Jvm.ClassFile.FieldType.int)) ∈ LW := LW_in (List.mem_append_right _ (List.mem_append_right _ (List.mem_append_right _ (List.mem_append_left _ ((List.mem_of_getElem? (i := 99) (by decide +kernel))))))) (by decide +kernel)
theorem m_514 : (Jvm.Cond.methodLink "SharedEchoesLaw" (105 : Nat) ({ cls := "SharedEchoes", name := "play", desc := "()I" } : Jvm.MethodName)) ∈ LW := LW_in (List.mem_append_right _ (List.mem_append_right _ (List.mem_append_right _ (List.mem_append_left _ ((List.mem_of_getElem? (i := 100) (by decide +kernel))))))) (by decide +kernel)
theorem m_515 : (Jvm.Cond.instanceMethod ({ cls := "SharedEchoes", name := "play", desc := "()I" } : Jvm.MethodName)) ∈ LW := LW_in (List.mem_append_right _ (List.mem_append_right _ (List.mem_append_right _ (List.mem_append_left _ ((List.mem_of_getElem? (i := 101) (by decide +kernel))))))) (by decide +kernel)
theorem m_516 : (Jvm.Cond.selects "SharedEchoes" ({ cls := "SharedEchoes", name := "play", desc := "()I" } : Jvm.MethodName) ({ cls := "SharedEchoes", name := "play", desc := "()I" } : Jvm.MethodName)) ∈ LW := LW_in (List.mem_append_right _ (List.mem_append_right _ (List.mem_append_right _ (List.mem_append_left _ ((List.mem_of_getElem? (i := 102) (by decide +kernel))))))) (by decide +kernel)
theorem m_517 : (Jvm.Cond.code ({ cls := "SharedEchoes", name := "play", desc := "()I" } : Jvm.MethodName) prog_1_method_24_code (3 : Nat) (Option.some Jvm.ClassFile.FieldType.int)) ∈ LW := LW_in (List.mem_append_right _ (List.mem_append_right _ (List.mem_append_right _ (List.mem_append_left _ ((List.mem_of_getElem? (i := 103) (by decide +kernel))))))) (by decide +kernel)
theorem m_518 : (Jvm.Cond.methodLink "SharedEchoes" (251 : Nat) ({ cls := "SharedEchoes", name := "doOrder", desc := "()V" } : Jvm.MethodName)) ∈ LW := LW_in (List.mem_append_right _ (List.mem_append_right _ (List.mem_append_right _ (List.mem_append_left _ ((List.mem_of_getElem? (i := 104) (by decide +kernel))))))) (by decide +kernel)
theorem m_519 : (Jvm.Cond.instanceMethod ({ cls := "SharedEchoes", name := "doOrder", desc := "()V" } : Jvm.MethodName)) ∈ LW := LW_in (List.mem_append_right _ (List.mem_append_right _ (List.mem_append_right _ (List.mem_append_left _ ((List.mem_of_getElem? (i := 106) (by decide +kernel))))))) (by decide +kernel)
theorem m_520 : (Jvm.Cond.code ({ cls := "SharedEchoes", name := "doOrder", desc := "()V" } : Jvm.MethodName) prog_1_method_43_code (3 : Nat) (Option.none : Option Jvm.ClassFile.FieldType)) ∈ LW := LW_in (List.mem_append_right _ (List.mem_append_right _ (List.mem_append_right _ (List.mem_append_left _ ((List.mem_of_getElem? (i := 107) (by decide +kernel))))))) (by decide +kernel)
theorem m_521 : (Jvm.Cond.classLink "SharedEchoesLaw" (10 : Nat) "SharedEchoesModel") ∈ LW := LW_in (List.mem_append_right _ (List.mem_append_right _ (List.mem_append_right _ (List.mem_append_left _ ((List.mem_of_getElem? (i := 108) (by decide +kernel))))))) (by decide +kernel)
theorem m_522 : (Jvm.Cond.instantiable "SharedEchoesModel" (9 : Nat)) ∈ LW := LW_in (List.mem_append_right _ (List.mem_append_right _ (List.mem_append_right _ (List.mem_append_left _ ((List.mem_of_getElem? (i := 109) (by decide +kernel))))))) (by decide +kernel)
theorem m_523 : (Jvm.Cond.methodLink "SharedEchoesLaw" (12 : Nat) ({ cls := "SharedEchoesModel", name := "<init>", desc := "()V" } : Jvm.MethodName)) ∈ LW := LW_in (List.mem_append_right _ (List.mem_append_right _ (List.mem_append_right _ (List.mem_append_left _ ((List.mem_of_getElem? (i := 110) (by decide +kernel))))))) (by decide +kernel)
theorem m_524 : (Jvm.Cond.instanceMethod ({ cls := "SharedEchoesModel", name := "<init>", desc := "()V" } : Jvm.MethodName)) ∈ LW := LW_in (List.mem_append_right _ (List.mem_append_right _ (List.mem_append_right _ (List.mem_append_left _ ((List.mem_of_getElem? (i := 111) (by decide +kernel))))))) (by decide +kernel)
theorem m_525 : (Jvm.Cond.code ({ cls := "SharedEchoesModel", name := "<init>", desc := "()V" } : Jvm.MethodName) prog_11_method_1_code (1 : Nat) (Option.none : Option Jvm.ClassFile.FieldType)) ∈ LW := LW_in (List.mem_append_right _ (List.mem_append_right _ (List.mem_append_right _ (List.mem_append_left _ ((List.mem_of_getElem? (i := 112) (by decide +kernel))))))) (by decide +kernel)
theorem m_526 : (Jvm.Cond.methodLink "SharedEchoesModel" (1 : Nat) ({ cls := "java/lang/Object", name := "<init>", desc := "()V" } : Jvm.MethodName)) ∈ LW := LW_in (List.mem_append_right _ (List.mem_append_right _ (List.mem_append_right _ (List.mem_append_left _ ((List.mem_of_getElem? (i := 113) (by decide +kernel))))))) (by decide +kernel)
theorem m_527 : (Jvm.Cond.fieldLink "SharedEchoesModel" (7 : Nat) "SharedEchoesModel" "s" "[I") ∈ LW := LW_in (List.mem_append_right _ (List.mem_append_right _ (List.mem_append_right _ (List.mem_append_left _ ((List.mem_of_getElem? (i := 114) (by decide +kernel))))))) (by decide +kernel)
theorem m_528 : (Jvm.Cond.fieldLink "SharedEchoesModel" (13 : Nat) "SharedEchoesModel" "sums" "[J") ∈ LW := LW_in (List.mem_append_right _ (List.mem_append_right _ (List.mem_append_right _ (List.mem_append_left _ ((List.mem_of_getElem? (i := 115) (by decide +kernel))))))) (by decide +kernel)
theorem m_529 : (Jvm.Cond.fieldLink "SharedEchoesModel" (29 : Nat) "SharedEchoesModel" "states" "I") ∈ LW := LW_in (List.mem_append_right _ (List.mem_append_right _ (List.mem_append_right _ (List.mem_append_left _ ((List.mem_of_getElem? (i := 116) (by decide +kernel))))))) (by decide +kernel)
theorem m_530 : (Jvm.Cond.fieldLink "SharedEchoesModel" (17 : Nat) "SharedEchoesModel" "text" "[C") ∈ LW := LW_in (List.mem_append_right _ (List.mem_append_right _ (List.mem_append_right _ (List.mem_append_left _ ((List.mem_of_getElem? (i := 117) (by decide +kernel))))))) (by decide +kernel)
theorem m_531 : (Jvm.Cond.fieldLink "SharedEchoesModel" (111 : Nat) "SharedEchoesModel" "typed" "I") ∈ LW := LW_in (List.mem_append_right _ (List.mem_append_right _ (List.mem_append_right _ (List.mem_append_left _ ((List.mem_of_getElem? (i := 118) (by decide +kernel))))))) (by decide +kernel)
theorem m_532 : (Jvm.Cond.fieldLink "SharedEchoesModel" (132 : Nat) "SharedEchoesModel" "reason" "I") ∈ LW := LW_in (List.mem_append_right _ (List.mem_append_right _ (List.mem_append_right _ (List.mem_append_left _ ((List.mem_of_getElem? (i := 119) (by decide +kernel))))))) (by decide +kernel)
theorem m_533 : (Jvm.Cond.fieldLink "SharedEchoesModel" (135 : Nat) "SharedEchoesModel" "cause" "I") ∈ LW := LW_in (List.mem_append_right _ (List.mem_append_right _ (List.mem_append_right _ (List.mem_append_left _ ((List.mem_of_getElem? (i := 120) (by decide +kernel))))))) (by decide +kernel)
theorem m_534 : (Jvm.Cond.fieldLink "SharedEchoesModel" (114 : Nat) "SharedEchoesModel" "at" "I") ∈ LW := LW_in (List.mem_append_right _ (List.mem_append_right _ (List.mem_append_right _ (List.mem_append_left _ ((List.mem_of_getElem? (i := 121) (by decide +kernel))))))) (by decide +kernel)
theorem m_535 : (Jvm.Cond.fieldLink "SharedEchoesModel" (21 : Nat) "SharedEchoesModel" "told" "[I") ∈ LW := LW_in (List.mem_append_right _ (List.mem_append_right _ (List.mem_append_right _ (List.mem_append_left _ ((List.mem_of_getElem? (i := 122) (by decide +kernel))))))) (by decide +kernel)
theorem m_536 : (Jvm.Cond.laysFinal "SharedEchoesModel" "SharedEchoesModel" "s" "[I") ∈ LW := LW_in (List.mem_append_right _ (List.mem_append_right _ (List.mem_append_right _ (List.mem_append_left _ ((List.mem_of_getElem? (i := 123) (by decide +kernel))))))) (by decide +kernel)
theorem m_537 : (Jvm.Cond.laysFinal "SharedEchoesModel" "SharedEchoesModel" "sums" "[J") ∈ LW := LW_in (List.mem_append_right _ (List.mem_append_right _ (List.mem_append_right _ (List.mem_append_left _ ((List.mem_of_getElem? (i := 125) (by decide +kernel))))))) (by decide +kernel)
theorem m_538 : (Jvm.Cond.lays "SharedEchoesModel" "SharedEchoesModel" "states" "I") ∈ LW := LW_in (List.mem_append_right _ (List.mem_append_right _ (List.mem_append_right _ (List.mem_append_left _ ((List.mem_of_getElem? (i := 127) (by decide +kernel))))))) (by decide +kernel)
theorem m_539 : (Jvm.Cond.laysFinal "SharedEchoesModel" "SharedEchoesModel" "text" "[C") ∈ LW := LW_in (List.mem_append_right _ (List.mem_append_right _ (List.mem_append_right _ (List.mem_append_left _ ((List.mem_of_getElem? (i := 129) (by decide +kernel))))))) (by decide +kernel)
theorem m_540 : (Jvm.Cond.lays "SharedEchoesModel" "SharedEchoesModel" "typed" "I") ∈ LW := LW_in (List.mem_append_right _ (List.mem_append_right _ (List.mem_append_right _ (List.mem_append_left _ ((List.mem_of_getElem? (i := 131) (by decide +kernel))))))) (by decide +kernel)
theorem m_541 : (Jvm.Cond.lays "SharedEchoesModel" "SharedEchoesModel" "reason" "I") ∈ LW := LW_in (List.mem_append_right _ (List.mem_append_right _ (List.mem_append_right _ (List.mem_append_left _ ((List.mem_of_getElem? (i := 133) (by decide +kernel))))))) (by decide +kernel)
theorem m_542 : (Jvm.Cond.lays "SharedEchoesModel" "SharedEchoesModel" "cause" "I") ∈ LW := LW_in (List.mem_append_right _ (List.mem_append_right _ (List.mem_append_right _ (List.mem_append_left _ ((List.mem_of_getElem? (i := 135) (by decide +kernel))))))) (by decide +kernel)
theorem m_543 : (Jvm.Cond.lays "SharedEchoesModel" "SharedEchoesModel" "at" "I") ∈ LW := LW_in (List.mem_append_right _ (List.mem_append_right _ (List.mem_append_right _ (List.mem_append_left _ ((List.mem_of_getElem? (i := 137) (by decide +kernel))))))) (by decide +kernel)
theorem m_544 : (Jvm.Cond.laysFinal "SharedEchoesModel" "SharedEchoesModel" "told" "[I") ∈ LW := LW_in (List.mem_append_right _ (List.mem_append_right _ (List.mem_append_right _ (List.mem_append_left _ ((List.mem_of_getElem? (i := 139) (by decide +kernel))))))) (by decide +kernel)
theorem m_545 : (Jvm.Cond.arrayClass Jvm.ClassFile.FieldType.long) ∈ LW := LW_in (List.mem_append_right _ (List.mem_append_right _ (List.mem_append_right _ (List.mem_append_left _ ((List.mem_of_getElem? (i := 142) (by decide +kernel))))))) (by decide +kernel)
theorem m_546 : (Jvm.Cond.arrayClass Jvm.ClassFile.FieldType.char) ∈ LW := LW_in (List.mem_append_right _ (List.mem_append_right _ (List.mem_append_right _ (List.mem_append_left _ ((List.mem_of_getElem? (i := 143) (by decide +kernel))))))) (by decide +kernel)
theorem m_547 : (Jvm.Cond.methodLink "SharedEchoesLaw" (17 : Nat) ({ cls := "SharedEchoesModel", name := "sample", desc := "(I)I" } : Jvm.MethodName)) ∈ LW := LW_in (List.mem_append_right _ (List.mem_append_right _ (List.mem_append_right _ (List.mem_append_left _ ((List.mem_of_getElem? (i := 144) (by decide +kernel))))))) (by decide +kernel)
theorem m_548 : (Jvm.Cond.instanceMethod ({ cls := "SharedEchoesModel", name := "sample", desc := "(I)I" } : Jvm.MethodName)) ∈ LW := LW_in (List.mem_append_right _ (List.mem_append_right _ (List.mem_append_right _ (List.mem_append_left _ ((List.mem_of_getElem? (i := 145) (by decide +kernel))))))) (by decide +kernel)
theorem m_549 : (Jvm.Cond.selects "SharedEchoesModel" ({ cls := "SharedEchoesModel", name := "sample", desc := "(I)I" } : Jvm.MethodName) ({ cls := "SharedEchoesModel", name := "sample", desc := "(I)I" } : Jvm.MethodName)) ∈ LW := LW_in (List.mem_append_right _ (List.mem_append_right _ (List.mem_append_right _ (List.mem_append_left _ ((List.mem_of_getElem? (i := 146) (by decide +kernel))))))) (by decide +kernel)
theorem m_550 : (Jvm.Cond.code ({ cls := "SharedEchoesModel", name := "sample", desc := "(I)I" } : Jvm.MethodName) prog_11_method_20_code (2 : Nat) (Option.some Jvm.ClassFile.FieldType.int)) ∈ LW := LW_in (List.mem_append_right _ (List.mem_append_right _ (List.mem_append_right _ (List.mem_append_left _ ((List.mem_of_getElem? (i := 147) (by decide +kernel))))))) (by decide +kernel)
theorem m_551 : (Jvm.Cond.methodLink "SharedEchoesModel" (63 : Nat) ({ cls := "SharedEchoesModel", name := "keeps", desc := "()V" } : Jvm.MethodName)) ∈ LW := LW_in (List.mem_append_right _ (List.mem_append_right _ (List.mem_append_right _ (List.mem_append_left _ ((List.mem_of_getElem? (i := 148) (by decide +kernel))))))) (by decide +kernel)
theorem m_552 : (Jvm.Cond.instanceMethod ({ cls := "SharedEchoesModel", name := "keeps", desc := "()V" } : Jvm.MethodName)) ∈ LW := LW_in (List.mem_append_right _ (List.mem_append_right _ (List.mem_append_right _ (List.mem_append_left _ ((List.mem_of_getElem? (i := 150) (by decide +kernel))))))) (by decide +kernel)
theorem m_553 : (Jvm.Cond.code ({ cls := "SharedEchoesModel", name := "keeps", desc := "()V" } : Jvm.MethodName) prog_11_method_5_code (1 : Nat) (Option.none : Option Jvm.ClassFile.FieldType)) ∈ LW := LW_in (List.mem_append_right _ (List.mem_append_right _ (List.mem_append_right _ (List.mem_append_left _ ((List.mem_of_getElem? (i := 151) (by decide +kernel))))))) (by decide +kernel)
theorem m_554 : (Jvm.Cond.methodLink "SharedEchoesModel" (24 : Nat) ({ cls := "SharedEchoesModel", name := "copies", desc := "(II)V" } : Jvm.MethodName)) ∈ LW := LW_in (List.mem_append_right _ (List.mem_append_right _ (List.mem_append_right _ (List.mem_append_left _ ((List.mem_of_getElem? (i := 152) (by decide +kernel))))))) (by decide +kernel)
theorem m_555 : (Jvm.Cond.instanceMethod ({ cls := "SharedEchoesModel", name := "copies", desc := "(II)V" } : Jvm.MethodName)) ∈ LW := LW_in (List.mem_append_right _ (List.mem_append_right _ (List.mem_append_right _ (List.mem_append_left _ ((List.mem_of_getElem? (i := 154) (by decide +kernel))))))) (by decide +kernel)
theorem m_556 : (Jvm.Cond.code ({ cls := "SharedEchoesModel", name := "copies", desc := "(II)V" } : Jvm.MethodName) prog_11_method_4_code (4 : Nat) (Option.none : Option Jvm.ClassFile.FieldType)) ∈ LW := LW_in (List.mem_append_right _ (List.mem_append_right _ (List.mem_append_right _ (List.mem_append_left _ ((List.mem_of_getElem? (i := 155) (by decide +kernel))))))) (by decide +kernel)
theorem m_557 : (Jvm.Cond.methodLink "SharedEchoesModel" (66 : Nat) ({ cls := "SharedEchoesModel", name := "doSample", desc := "(I)I" } : Jvm.MethodName)) ∈ LW := LW_in (List.mem_append_right _ (List.mem_append_right _ (List.mem_append_right _ (List.mem_append_left _ ((List.mem_of_getElem? (i := 156) (by decide +kernel))))))) (by decide +kernel)
theorem m_558 : (Jvm.Cond.instanceMethod ({ cls := "SharedEchoesModel", name := "doSample", desc := "(I)I" } : Jvm.MethodName)) ∈ LW := LW_in (List.mem_append_right _ (List.mem_append_right _ (List.mem_append_right _ (List.mem_append_left _ ((List.mem_of_getElem? (i := 158) (by decide +kernel))))))) (by decide +kernel)
theorem m_559 : (Jvm.Cond.code ({ cls := "SharedEchoesModel", name := "doSample", desc := "(I)I" } : Jvm.MethodName) prog_11_method_14_code (2 : Nat) (Option.some Jvm.ClassFile.FieldType.int)) ∈ LW := LW_in (List.mem_append_right _ (List.mem_append_right _ (List.mem_append_right _ (List.mem_append_left _ ((List.mem_of_getElem? (i := 159) (by decide +kernel))))))) (by decide +kernel)
theorem m_560 : (Jvm.Cond.methodLink "SharedEchoesModel" (54 : Nat) ({ cls := "SharedEchoesModel", name := "in", desc := "(III)Z" } : Jvm.MethodName)) ∈ LW := LW_in (List.mem_append_right _ (List.mem_append_right _ (List.mem_append_right _ (List.mem_append_left _ ((List.mem_of_getElem? (i := 160) (by decide +kernel))))))) (by decide +kernel)
theorem m_561 : (Jvm.Cond.static ({ cls := "SharedEchoesModel", name := "in", desc := "(III)Z" } : Jvm.MethodName)) ∈ LW := LW_in (List.mem_append_right _ (List.mem_append_right _ (List.mem_append_right _ (List.mem_append_left _ ((List.mem_of_getElem? (i := 161) (by decide +kernel))))))) (by decide +kernel)
theorem m_562 : (Jvm.Cond.code ({ cls := "SharedEchoesModel", name := "in", desc := "(III)Z" } : Jvm.MethodName) prog_11_method_2_code (3 : Nat) (Option.some Jvm.ClassFile.FieldType.boolean)) ∈ LW := LW_in (List.mem_append_right _ (List.mem_append_right _ (List.mem_append_right _ (List.mem_append_left _ ((List.mem_of_getElem? (i := 162) (by decide +kernel))))))) (by decide +kernel)
theorem m_563 : (Jvm.Cond.methodLink "SharedEchoesModel" (58 : Nat) ({ cls := "SharedEchoesModel", name := "goes", desc := "(II)I" } : Jvm.MethodName)) ∈ LW := LW_in (List.mem_append_right _ (List.mem_append_right _ (List.mem_append_right _ (List.mem_append_left _ ((List.mem_of_getElem? (i := 163) (by decide +kernel))))))) (by decide +kernel)
theorem m_564 : (Jvm.Cond.instanceMethod ({ cls := "SharedEchoesModel", name := "goes", desc := "(II)I" } : Jvm.MethodName)) ∈ LW := LW_in (List.mem_append_right _ (List.mem_append_right _ (List.mem_append_right _ (List.mem_append_left _ ((List.mem_of_getElem? (i := 165) (by decide +kernel))))))) (by decide +kernel)
theorem m_565 : (Jvm.Cond.code ({ cls := "SharedEchoesModel", name := "goes", desc := "(II)I" } : Jvm.MethodName) prog_11_method_12_code (10 : Nat) (Option.some Jvm.ClassFile.FieldType.int)) ∈ LW := LW_in (List.mem_append_right _ (List.mem_append_right _ (List.mem_append_right _ (List.mem_append_left _ ((List.mem_of_getElem? (i := 166) (by decide +kernel))))))) (by decide +kernel)
theorem m_566 : (Jvm.Cond.methodLink "SharedEchoesModel" (48 : Nat) ({ cls := "SharedEchoesModel", name := "share", desc := "(II)I" } : Jvm.MethodName)) ∈ LW := LW_in (List.mem_append_right _ (List.mem_append_right _ (List.mem_append_right _ (List.mem_append_left _ ((List.mem_of_getElem? (i := 167) (by decide +kernel))))))) (by decide +kernel)
theorem m_567 : (Jvm.Cond.instanceMethod ({ cls := "SharedEchoesModel", name := "share", desc := "(II)I" } : Jvm.MethodName)) ∈ LW := LW_in (List.mem_append_right _ (List.mem_append_right _ (List.mem_append_right _ (List.mem_append_left _ ((List.mem_of_getElem? (i := 169) (by decide +kernel))))))) (by decide +kernel)
theorem m_568 : (Jvm.Cond.code ({ cls := "SharedEchoesModel", name := "share", desc := "(II)I" } : Jvm.MethodName) prog_11_method_10_code (3 : Nat) (Option.some Jvm.ClassFile.FieldType.int)) ∈ LW := LW_in (List.mem_append_right _ (List.mem_append_right _ (List.mem_append_right _ (List.mem_append_left _ ((List.mem_of_getElem? (i := 170) (by decide +kernel))))))) (by decide +kernel)
theorem m_569 : (Jvm.Cond.methodLink "SharedEchoesModel" (41 : Nat) ({ cls := "SharedEchoesModel", name := "reads", desc := "(II)I" } : Jvm.MethodName)) ∈ LW := LW_in (List.mem_append_right _ (List.mem_append_right _ (List.mem_append_right _ (List.mem_append_left _ ((List.mem_of_getElem? (i := 171) (by decide +kernel))))))) (by decide +kernel)
theorem m_570 : (Jvm.Cond.instanceMethod ({ cls := "SharedEchoesModel", name := "reads", desc := "(II)I" } : Jvm.MethodName)) ∈ LW := LW_in (List.mem_append_right _ (List.mem_append_right _ (List.mem_append_right _ (List.mem_append_left _ ((List.mem_of_getElem? (i := 173) (by decide +kernel))))))) (by decide +kernel)
theorem m_571 : (Jvm.Cond.code ({ cls := "SharedEchoesModel", name := "reads", desc := "(II)I" } : Jvm.MethodName) prog_11_method_9_code (3 : Nat) (Option.some Jvm.ClassFile.FieldType.int)) ∈ LW := LW_in (List.mem_append_right _ (List.mem_append_right _ (List.mem_append_right _ (List.mem_append_left _ ((List.mem_of_getElem? (i := 174) (by decide +kernel))))))) (by decide +kernel)
theorem m_572 : (Jvm.Cond.methodLink "SharedEchoesModel" (37 : Nat) ({ cls := "SharedEchoesModel", name := "isLost", desc := "(II)Z" } : Jvm.MethodName)) ∈ LW := LW_in (List.mem_append_right _ (List.mem_append_right _ (List.mem_append_right _ (List.mem_append_left _ ((List.mem_of_getElem? (i := 175) (by decide +kernel))))))) (by decide +kernel)
theorem m_573 : (Jvm.Cond.instanceMethod ({ cls := "SharedEchoesModel", name := "isLost", desc := "(II)Z" } : Jvm.MethodName)) ∈ LW := LW_in (List.mem_append_right _ (List.mem_append_right _ (List.mem_append_right _ (List.mem_append_left _ ((List.mem_of_getElem? (i := 177) (by decide +kernel))))))) (by decide +kernel)
theorem m_574 : (Jvm.Cond.code ({ cls := "SharedEchoesModel", name := "isLost", desc := "(II)Z" } : Jvm.MethodName) prog_11_method_8_code (3 : Nat) (Option.some Jvm.ClassFile.FieldType.boolean)) ∈ LW := LW_in (List.mem_append_right _ (List.mem_append_right _ (List.mem_append_right _ (List.mem_append_left _ ((List.mem_of_getElem? (i := 178) (by decide +kernel))))))) (by decide +kernel)
theorem m_575 : (Jvm.Cond.methodLink "SharedEchoesModel" (33 : Nat) ({ cls := "SharedEchoesModel", name := "length", desc := "(I)I" } : Jvm.MethodName)) ∈ LW := LW_in (List.mem_append_right _ (List.mem_append_right _ (List.mem_append_right _ (List.mem_append_left _ ((List.mem_of_getElem? (i := 179) (by decide +kernel))))))) (by decide +kernel)
theorem m_576 : (Jvm.Cond.instanceMethod ({ cls := "SharedEchoesModel", name := "length", desc := "(I)I" } : Jvm.MethodName)) ∈ LW := LW_in (List.mem_append_right _ (List.mem_append_right _ (List.mem_append_right _ (List.mem_append_left _ ((List.mem_of_getElem? (i := 181) (by decide +kernel))))))) (by decide +kernel)
theorem m_577 : (Jvm.Cond.code ({ cls := "SharedEchoesModel", name := "length", desc := "(I)I" } : Jvm.MethodName) prog_11_method_7_code (2 : Nat) (Option.some Jvm.ClassFile.FieldType.int)) ∈ LW := LW_in (List.mem_append_right _ (List.mem_append_right _ (List.mem_append_right _ (List.mem_append_left _ ((List.mem_of_getElem? (i := 182) (by decide +kernel))))))) (by decide +kernel)
theorem m_578 : (Jvm.Cond.methodLink "SharedEchoesModel" (51 : Nat) ({ cls := "SharedEchoesModel", name := "shaped", desc := "(II)I" } : Jvm.MethodName)) ∈ LW := LW_in (List.mem_append_right _ (List.mem_append_right _ (List.mem_append_right _ (List.mem_append_left _ ((List.mem_of_getElem? (i := 183) (by decide +kernel))))))) (by decide +kernel)
theorem m_579 : (Jvm.Cond.instanceMethod ({ cls := "SharedEchoesModel", name := "shaped", desc := "(II)I" } : Jvm.MethodName)) ∈ LW := LW_in (List.mem_append_right _ (List.mem_append_right _ (List.mem_append_right _ (List.mem_append_left _ ((List.mem_of_getElem? (i := 185) (by decide +kernel))))))) (by decide +kernel)
theorem m_580 : (Jvm.Cond.code ({ cls := "SharedEchoesModel", name := "shaped", desc := "(II)I" } : Jvm.MethodName) prog_11_method_11_code (8 : Nat) (Option.some Jvm.ClassFile.FieldType.int)) ∈ LW := LW_in (List.mem_append_right _ (List.mem_append_right _ (List.mem_append_right _ (List.mem_append_left _ ((List.mem_of_getElem? (i := 186) (by decide +kernel))))))) (by decide +kernel)
theorem m_581 : (Jvm.Cond.methodLink "SharedEchoesModel" (45 : Nat) ({ cls := "SharedEchoesModel", name := "amount", desc := "(I)I" } : Jvm.MethodName)) ∈ LW := LW_in (List.mem_append_right _ (List.mem_append_right _ (List.mem_append_right _ (List.mem_append_left _ ((List.mem_of_getElem? (i := 187) (by decide +kernel))))))) (by decide +kernel)
theorem m_582 : (Jvm.Cond.static ({ cls := "SharedEchoesModel", name := "amount", desc := "(I)I" } : Jvm.MethodName)) ∈ LW := LW_in (List.mem_append_right _ (List.mem_append_right _ (List.mem_append_right _ (List.mem_append_left _ ((List.mem_of_getElem? (i := 188) (by decide +kernel))))))) (by decide +kernel)
theorem m_583 : (Jvm.Cond.code ({ cls := "SharedEchoesModel", name := "amount", desc := "(I)I" } : Jvm.MethodName) prog_11_method_3_code (1 : Nat) (Option.some Jvm.ClassFile.FieldType.int)) ∈ LW := LW_in (List.mem_append_right _ (List.mem_append_right _ (List.mem_append_right _ (List.mem_append_left _ ((List.mem_of_getElem? (i := 189) (by decide +kernel))))))) (by decide +kernel)
theorem m_584 : (Jvm.Cond.constant "SharedEchoesModel" (28 : Nat) (-1000001 : Int32)) ∈ LW := LW_in (List.mem_append_right _ (List.mem_append_right _ (List.mem_append_right _ (List.mem_append_left _ ((List.mem_of_getElem? (i := 190) (by decide +kernel))))))) (by decide +kernel)
theorem m_585 : (Jvm.Cond.methodLink "SharedEchoesModel" (69 : Nat) ({ cls := "SharedEchoesModel", name := "acted", desc := "(I)I" } : Jvm.MethodName)) ∈ LW := LW_in (List.mem_append_right _ (List.mem_append_right _ (List.mem_append_right _ (List.mem_append_left _ ((List.mem_of_getElem? (i := 191) (by decide +kernel))))))) (by decide +kernel)
theorem m_586 : (Jvm.Cond.instanceMethod ({ cls := "SharedEchoesModel", name := "acted", desc := "(I)I" } : Jvm.MethodName)) ∈ LW := LW_in (List.mem_append_right _ (List.mem_append_right _ (List.mem_append_right _ (List.mem_append_left _ ((List.mem_of_getElem? (i := 193) (by decide +kernel))))))) (by decide +kernel)
theorem m_587 : (Jvm.Cond.code ({ cls := "SharedEchoesModel", name := "acted", desc := "(I)I" } : Jvm.MethodName) prog_11_method_6_code (3 : Nat) (Option.some Jvm.ClassFile.FieldType.int)) ∈ LW := LW_in (List.mem_append_right _ (List.mem_append_right _ (List.mem_append_right _ (List.mem_append_left _ ((List.mem_of_getElem? (i := 194) (by decide +kernel))))))) (by decide +kernel)
theorem m_588 : (Jvm.Cond.methodLink "SharedEchoesLaw" (21 : Nat) ({ cls := "SharedEchoesModel", name := "silence", desc := "(I)I" } : Jvm.MethodName)) ∈ LW := LW_in (List.mem_append_right _ (List.mem_append_right _ (List.mem_append_right _ (List.mem_append_left _ ((List.mem_of_getElem? (i := 195) (by decide +kernel))))))) (by decide +kernel)
theorem m_589 : (Jvm.Cond.instanceMethod ({ cls := "SharedEchoesModel", name := "silence", desc := "(I)I" } : Jvm.MethodName)) ∈ LW := LW_in (List.mem_append_right _ (List.mem_append_right _ (List.mem_append_right _ (List.mem_append_left _ ((List.mem_of_getElem? (i := 196) (by decide +kernel))))))) (by decide +kernel)
theorem m_590 : (Jvm.Cond.selects "SharedEchoesModel" ({ cls := "SharedEchoesModel", name := "silence", desc := "(I)I" } : Jvm.MethodName) ({ cls := "SharedEchoesModel", name := "silence", desc := "(I)I" } : Jvm.MethodName)) ∈ LW := LW_in (List.mem_append_right _ (List.mem_append_right _ (List.mem_append_right _ (List.mem_append_left _ ((List.mem_of_getElem? (i := 197) (by decide +kernel))))))) (by decide +kernel)
theorem m_591 : (Jvm.Cond.code ({ cls := "SharedEchoesModel", name := "silence", desc := "(I)I" } : Jvm.MethodName) prog_11_method_21_code (2 : Nat) (Option.some Jvm.ClassFile.FieldType.int)) ∈ LW := LW_in (List.mem_append_right _ (List.mem_append_right _ (List.mem_append_right _ (List.mem_append_left _ ((List.mem_of_getElem? (i := 198) (by decide +kernel))))))) (by decide +kernel)
theorem m_592 : (Jvm.Cond.methodLink "SharedEchoesModel" (72 : Nat) ({ cls := "SharedEchoesModel", name := "doSilence", desc := "(I)I" } : Jvm.MethodName)) ∈ LW := LW_in (List.mem_append_right _ (List.mem_append_right _ (List.mem_append_right _ (List.mem_append_left _ ((List.mem_of_getElem? (i := 199) (by decide +kernel))))))) (by decide +kernel)
theorem m_593 : (Jvm.Cond.instanceMethod ({ cls := "SharedEchoesModel", name := "doSilence", desc := "(I)I" } : Jvm.MethodName)) ∈ LW := LW_in (List.mem_append_right _ (List.mem_append_right _ (List.mem_append_right _ (List.mem_append_left _ ((List.mem_of_getElem? (i := 201) (by decide +kernel))))))) (by decide +kernel)
theorem m_594 : (Jvm.Cond.code ({ cls := "SharedEchoesModel", name := "doSilence", desc := "(I)I" } : Jvm.MethodName) prog_11_method_15_code (5 : Nat) (Option.some Jvm.ClassFile.FieldType.int)) ∈ LW := LW_in (List.mem_append_right _ (List.mem_append_right _ (List.mem_append_right _ (List.mem_append_left _ ((List.mem_of_getElem? (i := 202) (by decide +kernel))))))) (by decide +kernel)
theorem m_595 : (Jvm.Cond.methodLink "SharedEchoesLaw" (26 : Nat) ({ cls := "SharedEchoesModel", name := "tap", desc := "(III)I" } : Jvm.MethodName)) ∈ LW := LW_in (List.mem_append_right _ (List.mem_append_right _ (List.mem_append_right _ (List.mem_append_left _ ((List.mem_of_getElem? (i := 203) (by decide +kernel))))))) (by decide +kernel)
theorem m_596 : (Jvm.Cond.instanceMethod ({ cls := "SharedEchoesModel", name := "tap", desc := "(III)I" } : Jvm.MethodName)) ∈ LW := LW_in (List.mem_append_right _ (List.mem_append_right _ (List.mem_append_right _ (List.mem_append_left _ ((List.mem_of_getElem? (i := 204) (by decide +kernel))))))) (by decide +kernel)
theorem m_597 : (Jvm.Cond.selects "SharedEchoesModel" ({ cls := "SharedEchoesModel", name := "tap", desc := "(III)I" } : Jvm.MethodName) ({ cls := "SharedEchoesModel", name := "tap", desc := "(III)I" } : Jvm.MethodName)) ∈ LW := LW_in (List.mem_append_right _ (List.mem_append_right _ (List.mem_append_right _ (List.mem_append_left _ ((List.mem_of_getElem? (i := 205) (by decide +kernel))))))) (by decide +kernel)
theorem m_598 : (Jvm.Cond.code ({ cls := "SharedEchoesModel", name := "tap", desc := "(III)I" } : Jvm.MethodName) prog_11_method_22_code (4 : Nat) (Option.some Jvm.ClassFile.FieldType.int)) ∈ LW := LW_in (List.mem_append_right _ (List.mem_append_right _ (List.mem_append_right _ (List.mem_append_left _ ((List.mem_of_getElem? (i := 206) (by decide +kernel))))))) (by decide +kernel)
theorem m_599 : (Jvm.Cond.methodLink "SharedEchoesModel" (75 : Nat) ({ cls := "SharedEchoesModel", name := "doTap", desc := "(III)I" } : Jvm.MethodName)) ∈ LW := LW_in (List.mem_append_right _ (List.mem_append_right _ (List.mem_append_right _ (List.mem_append_left _ ((List.mem_of_getElem? (i := 207) (by decide +kernel))))))) (by decide +kernel)
theorem m_600 : (Jvm.Cond.instanceMethod ({ cls := "SharedEchoesModel", name := "doTap", desc := "(III)I" } : Jvm.MethodName)) ∈ LW := LW_in (List.mem_append_right _ (List.mem_append_right _ (List.mem_append_right _ (List.mem_append_left _ ((List.mem_of_getElem? (i := 209) (by decide +kernel))))))) (by decide +kernel)
theorem m_601 : (Jvm.Cond.code ({ cls := "SharedEchoesModel", name := "doTap", desc := "(III)I" } : Jvm.MethodName) prog_11_method_16_code (4 : Nat) (Option.some Jvm.ClassFile.FieldType.int)) ∈ LW := LW_in (List.mem_append_right _ (List.mem_append_right _ (List.mem_append_right _ (List.mem_append_left _ ((List.mem_of_getElem? (i := 210) (by decide +kernel))))))) (by decide +kernel)
theorem m_602 : (Jvm.Cond.methodLink "SharedEchoesLaw" (30 : Nat) ({ cls := "SharedEchoesModel", name := "off", desc := "(I)I" } : Jvm.MethodName)) ∈ LW := LW_in (List.mem_append_right _ (List.mem_append_right _ (List.mem_append_right _ (List.mem_append_left _ ((List.mem_of_getElem? (i := 211) (by decide +kernel))))))) (by decide +kernel)
theorem m_603 : (Jvm.Cond.instanceMethod ({ cls := "SharedEchoesModel", name := "off", desc := "(I)I" } : Jvm.MethodName)) ∈ LW := LW_in (List.mem_append_right _ (List.mem_append_right _ (List.mem_append_right _ (List.mem_append_left _ ((List.mem_of_getElem? (i := 212) (by decide +kernel))))))) (by decide +kernel)
theorem m_604 : (Jvm.Cond.selects "SharedEchoesModel" ({ cls := "SharedEchoesModel", name := "off", desc := "(I)I" } : Jvm.MethodName) ({ cls := "SharedEchoesModel", name := "off", desc := "(I)I" } : Jvm.MethodName)) ∈ LW := LW_in (List.mem_append_right _ (List.mem_append_right _ (List.mem_append_right _ (List.mem_append_left _ ((List.mem_of_getElem? (i := 213) (by decide +kernel))))))) (by decide +kernel)
theorem m_605 : (Jvm.Cond.code ({ cls := "SharedEchoesModel", name := "off", desc := "(I)I" } : Jvm.MethodName) prog_11_method_23_code (2 : Nat) (Option.some Jvm.ClassFile.FieldType.int)) ∈ LW := LW_in (List.mem_append_right _ (List.mem_append_right _ (List.mem_append_right _ (List.mem_append_left _ ((List.mem_of_getElem? (i := 214) (by decide +kernel))))))) (by decide +kernel)
theorem m_606 : (Jvm.Cond.constant "SharedEchoesModel" (62 : Nat) (-1000002 : Int32)) ∈ LW := LW_in (List.mem_append_right _ (List.mem_append_right _ (List.mem_append_right _ (List.mem_append_left _ ((List.mem_of_getElem? (i := 215) (by decide +kernel))))))) (by decide +kernel)
theorem m_607 : (Jvm.Cond.methodLink "SharedEchoesLaw" (35 : Nat) ({ cls := "SharedEchoesModel", name := "feedback", desc := "(II)I" } : Jvm.MethodName)) ∈ LW := LW_in (List.mem_append_right _ (List.mem_append_right _ (List.mem_append_right _ (List.mem_append_left _ ((List.mem_of_getElem? (i := 216) (by decide +kernel))))))) (by decide +kernel)
theorem m_608 : (Jvm.Cond.instanceMethod ({ cls := "SharedEchoesModel", name := "feedback", desc := "(II)I" } : Jvm.MethodName)) ∈ LW := LW_in (List.mem_append_right _ (List.mem_append_right _ (List.mem_append_right _ (List.mem_append_left _ ((List.mem_of_getElem? (i := 217) (by decide +kernel))))))) (by decide +kernel)
theorem m_609 : (Jvm.Cond.selects "SharedEchoesModel" ({ cls := "SharedEchoesModel", name := "feedback", desc := "(II)I" } : Jvm.MethodName) ({ cls := "SharedEchoesModel", name := "feedback", desc := "(II)I" } : Jvm.MethodName)) ∈ LW := LW_in (List.mem_append_right _ (List.mem_append_right _ (List.mem_append_right _ (List.mem_append_left _ ((List.mem_of_getElem? (i := 218) (by decide +kernel))))))) (by decide +kernel)
theorem m_610 : (Jvm.Cond.code ({ cls := "SharedEchoesModel", name := "feedback", desc := "(II)I" } : Jvm.MethodName) prog_11_method_24_code (3 : Nat) (Option.some Jvm.ClassFile.FieldType.int)) ∈ LW := LW_in (List.mem_append_right _ (List.mem_append_right _ (List.mem_append_right _ (List.mem_append_left _ ((List.mem_of_getElem? (i := 219) (by decide +kernel))))))) (by decide +kernel)
theorem m_611 : (Jvm.Cond.methodLink "SharedEchoesModel" (79 : Nat) ({ cls := "SharedEchoesModel", name := "doFeedback", desc := "(II)I" } : Jvm.MethodName)) ∈ LW := LW_in (List.mem_append_right _ (List.mem_append_right _ (List.mem_append_right _ (List.mem_append_left _ ((List.mem_of_getElem? (i := 220) (by decide +kernel))))))) (by decide +kernel)
theorem m_612 : (Jvm.Cond.instanceMethod ({ cls := "SharedEchoesModel", name := "doFeedback", desc := "(II)I" } : Jvm.MethodName)) ∈ LW := LW_in (List.mem_append_right _ (List.mem_append_right _ (List.mem_append_right _ (List.mem_append_left _ ((List.mem_of_getElem? (i := 222) (by decide +kernel))))))) (by decide +kernel)
theorem m_613 : (Jvm.Cond.code ({ cls := "SharedEchoesModel", name := "doFeedback", desc := "(II)I" } : Jvm.MethodName) prog_11_method_17_code (4 : Nat) (Option.some Jvm.ClassFile.FieldType.int)) ∈ LW := LW_in (List.mem_append_right _ (List.mem_append_right _ (List.mem_append_right _ (List.mem_append_left _ ((List.mem_of_getElem? (i := 223) (by decide +kernel))))))) (by decide +kernel)
theorem m_614 : (Jvm.Cond.methodLink "SharedEchoesLaw" (39 : Nat) ({ cls := "SharedEchoesModel", name := "steal", desc := "(I)I" } : Jvm.MethodName)) ∈ LW := LW_in (List.mem_append_right _ (List.mem_append_right _ (List.mem_append_right _ (List.mem_append_left _ ((List.mem_of_getElem? (i := 224) (by decide +kernel))))))) (by decide +kernel)
theorem m_615 : (Jvm.Cond.instanceMethod ({ cls := "SharedEchoesModel", name := "steal", desc := "(I)I" } : Jvm.MethodName)) ∈ LW := LW_in (List.mem_append_right _ (List.mem_append_right _ (List.mem_append_right _ (List.mem_append_left _ ((List.mem_of_getElem? (i := 225) (by decide +kernel))))))) (by decide +kernel)
theorem m_616 : (Jvm.Cond.selects "SharedEchoesModel" ({ cls := "SharedEchoesModel", name := "steal", desc := "(I)I" } : Jvm.MethodName) ({ cls := "SharedEchoesModel", name := "steal", desc := "(I)I" } : Jvm.MethodName)) ∈ LW := LW_in (List.mem_append_right _ (List.mem_append_right _ (List.mem_append_right _ (List.mem_append_left _ ((List.mem_of_getElem? (i := 226) (by decide +kernel))))))) (by decide +kernel)
theorem m_617 : (Jvm.Cond.code ({ cls := "SharedEchoesModel", name := "steal", desc := "(I)I" } : Jvm.MethodName) prog_11_method_25_code (2 : Nat) (Option.some Jvm.ClassFile.FieldType.int)) ∈ LW := LW_in (List.mem_append_right _ (List.mem_append_right _ (List.mem_append_right _ (List.mem_append_left _ ((List.mem_of_getElem? (i := 227) (by decide +kernel))))))) (by decide +kernel)
theorem m_618 : (Jvm.Cond.methodLink "SharedEchoesModel" (82 : Nat) ({ cls := "SharedEchoesModel", name := "doSteal", desc := "(I)I" } : Jvm.MethodName)) ∈ LW := LW_in (List.mem_append_right _ (List.mem_append_right _ (List.mem_append_right _ (List.mem_append_left _ ((List.mem_of_getElem? (i := 228) (by decide +kernel))))))) (by decide +kernel)
theorem m_619 : (Jvm.Cond.instanceMethod ({ cls := "SharedEchoesModel", name := "doSteal", desc := "(I)I" } : Jvm.MethodName)) ∈ LW := LW_in (List.mem_append_right _ (List.mem_append_right _ (List.mem_append_right _ (List.mem_append_left _ ((List.mem_of_getElem? (i := 230) (by decide +kernel))))))) (by decide +kernel)
theorem m_620 : (Jvm.Cond.code ({ cls := "SharedEchoesModel", name := "doSteal", desc := "(I)I" } : Jvm.MethodName) prog_11_method_18_code (3 : Nat) (Option.some Jvm.ClassFile.FieldType.int)) ∈ LW := LW_in (List.mem_append_right _ (List.mem_append_right _ (List.mem_append_right _ (List.mem_append_left _ ((List.mem_of_getElem? (i := 231) (by decide +kernel))))))) (by decide +kernel)
theorem m_621 : (Jvm.Cond.constant "SharedEchoesModel" (61 : Nat) (-1000003 : Int32)) ∈ LW := LW_in (List.mem_append_right _ (List.mem_append_right _ (List.mem_append_right _ (List.mem_append_left _ ((List.mem_of_getElem? (i := 232) (by decide +kernel))))))) (by decide +kernel)
theorem m_622 : (Jvm.Cond.methodLink "SharedEchoesLaw" (43 : Nat) ({ cls := "SharedEchoesModel", name := "giveBack", desc := "(I)I" } : Jvm.MethodName)) ∈ LW := LW_in (List.mem_append_right _ (List.mem_append_right _ (List.mem_append_right _ (List.mem_append_left _ ((List.mem_of_getElem? (i := 233) (by decide +kernel))))))) (by decide +kernel)
theorem m_623 : (Jvm.Cond.instanceMethod ({ cls := "SharedEchoesModel", name := "giveBack", desc := "(I)I" } : Jvm.MethodName)) ∈ LW := LW_in (List.mem_append_right _ (List.mem_append_right _ (List.mem_append_right _ (List.mem_append_left _ ((List.mem_of_getElem? (i := 234) (by decide +kernel))))))) (by decide +kernel)
theorem m_624 : (Jvm.Cond.selects "SharedEchoesModel" ({ cls := "SharedEchoesModel", name := "giveBack", desc := "(I)I" } : Jvm.MethodName) ({ cls := "SharedEchoesModel", name := "giveBack", desc := "(I)I" } : Jvm.MethodName)) ∈ LW := LW_in (List.mem_append_right _ (List.mem_append_right _ (List.mem_append_right _ (List.mem_append_left _ ((List.mem_of_getElem? (i := 235) (by decide +kernel))))))) (by decide +kernel)
theorem m_625 : (Jvm.Cond.code ({ cls := "SharedEchoesModel", name := "giveBack", desc := "(I)I" } : Jvm.MethodName) prog_11_method_26_code (2 : Nat) (Option.some Jvm.ClassFile.FieldType.int)) ∈ LW := LW_in (List.mem_append_right _ (List.mem_append_right _ (List.mem_append_right _ (List.mem_append_left _ ((List.mem_of_getElem? (i := 236) (by decide +kernel))))))) (by decide +kernel)
theorem m_626 : (Jvm.Cond.methodLink "SharedEchoesModel" (85 : Nat) ({ cls := "SharedEchoesModel", name := "doGive", desc := "(I)I" } : Jvm.MethodName)) ∈ LW := LW_in (List.mem_append_right _ (List.mem_append_right _ (List.mem_append_right _ (List.mem_append_left _ ((List.mem_of_getElem? (i := 237) (by decide +kernel))))))) (by decide +kernel)
theorem m_627 : (Jvm.Cond.instanceMethod ({ cls := "SharedEchoesModel", name := "doGive", desc := "(I)I" } : Jvm.MethodName)) ∈ LW := LW_in (List.mem_append_right _ (List.mem_append_right _ (List.mem_append_right _ (List.mem_append_left _ ((List.mem_of_getElem? (i := 239) (by decide +kernel))))))) (by decide +kernel)
theorem m_628 : (Jvm.Cond.code ({ cls := "SharedEchoesModel", name := "doGive", desc := "(I)I" } : Jvm.MethodName) prog_11_method_19_code (2 : Nat) (Option.some Jvm.ClassFile.FieldType.int)) ∈ LW := LW_in (List.mem_append_right _ (List.mem_append_right _ (List.mem_append_right _ (List.mem_append_right _ ((List.mem_of_getElem? (i := 0) (by decide +kernel))))))) (by decide +kernel)
theorem m_629 : (Jvm.Cond.methodLink "SharedEchoesLaw" (47 : Nat) ({ cls := "SharedEchoesModel", name := "set", desc := "(II)I" } : Jvm.MethodName)) ∈ LW := LW_in (List.mem_append_right _ (List.mem_append_right _ (List.mem_append_right _ (List.mem_append_right _ ((List.mem_of_getElem? (i := 1) (by decide +kernel))))))) (by decide +kernel)
theorem m_630 : (Jvm.Cond.instanceMethod ({ cls := "SharedEchoesModel", name := "set", desc := "(II)I" } : Jvm.MethodName)) ∈ LW := LW_in (List.mem_append_right _ (List.mem_append_right _ (List.mem_append_right _ (List.mem_append_right _ ((List.mem_of_getElem? (i := 2) (by decide +kernel))))))) (by decide +kernel)
theorem m_631 : (Jvm.Cond.selects "SharedEchoesModel" ({ cls := "SharedEchoesModel", name := "set", desc := "(II)I" } : Jvm.MethodName) ({ cls := "SharedEchoesModel", name := "set", desc := "(II)I" } : Jvm.MethodName)) ∈ LW := LW_in (List.mem_append_right _ (List.mem_append_right _ (List.mem_append_right _ (List.mem_append_right _ ((List.mem_of_getElem? (i := 3) (by decide +kernel))))))) (by decide +kernel)
theorem m_632 : (Jvm.Cond.code ({ cls := "SharedEchoesModel", name := "set", desc := "(II)I" } : Jvm.MethodName) prog_11_method_27_code (4 : Nat) (Option.some Jvm.ClassFile.FieldType.int)) ∈ LW := LW_in (List.mem_append_right _ (List.mem_append_right _ (List.mem_append_right _ (List.mem_append_right _ ((List.mem_of_getElem? (i := 4) (by decide +kernel))))))) (by decide +kernel)
theorem m_633 : (Jvm.Cond.methodLink "SharedEchoesLaw" (52 : Nat) ({ cls := "SharedEchoesModel", name := "reset", desc := "()I" } : Jvm.MethodName)) ∈ LW := LW_in (List.mem_append_right _ (List.mem_append_right _ (List.mem_append_right _ (List.mem_append_right _ ((List.mem_of_getElem? (i := 5) (by decide +kernel))))))) (by decide +kernel)
theorem m_634 : (Jvm.Cond.instanceMethod ({ cls := "SharedEchoesModel", name := "reset", desc := "()I" } : Jvm.MethodName)) ∈ LW := LW_in (List.mem_append_right _ (List.mem_append_right _ (List.mem_append_right _ (List.mem_append_right _ ((List.mem_of_getElem? (i := 6) (by decide +kernel))))))) (by decide +kernel)
theorem m_635 : (Jvm.Cond.selects "SharedEchoesModel" ({ cls := "SharedEchoesModel", name := "reset", desc := "()I" } : Jvm.MethodName) ({ cls := "SharedEchoesModel", name := "reset", desc := "()I" } : Jvm.MethodName)) ∈ LW := LW_in (List.mem_append_right _ (List.mem_append_right _ (List.mem_append_right _ (List.mem_append_right _ ((List.mem_of_getElem? (i := 7) (by decide +kernel))))))) (by decide +kernel)
theorem m_636 : (Jvm.Cond.code ({ cls := "SharedEchoesModel", name := "reset", desc := "()I" } : Jvm.MethodName) prog_11_method_28_code (2 : Nat) (Option.some Jvm.ClassFile.FieldType.int)) ∈ LW := LW_in (List.mem_append_right _ (List.mem_append_right _ (List.mem_append_right _ (List.mem_append_right _ ((List.mem_of_getElem? (i := 8) (by decide +kernel))))))) (by decide +kernel)
theorem m_637 : (Jvm.Cond.methodLink "SharedEchoesLaw" (56 : Nat) ({ cls := "SharedEchoesModel", name := "tapOf", desc := "(II)I" } : Jvm.MethodName)) ∈ LW := LW_in (List.mem_append_right _ (List.mem_append_right _ (List.mem_append_right _ (List.mem_append_right _ ((List.mem_of_getElem? (i := 9) (by decide +kernel))))))) (by decide +kernel)
theorem m_638 : (Jvm.Cond.instanceMethod ({ cls := "SharedEchoesModel", name := "tapOf", desc := "(II)I" } : Jvm.MethodName)) ∈ LW := LW_in (List.mem_append_right _ (List.mem_append_right _ (List.mem_append_right _ (List.mem_append_right _ ((List.mem_of_getElem? (i := 10) (by decide +kernel))))))) (by decide +kernel)
theorem m_639 : (Jvm.Cond.selects "SharedEchoesModel" ({ cls := "SharedEchoesModel", name := "tapOf", desc := "(II)I" } : Jvm.MethodName) ({ cls := "SharedEchoesModel", name := "tapOf", desc := "(II)I" } : Jvm.MethodName)) ∈ LW := LW_in (List.mem_append_right _ (List.mem_append_right _ (List.mem_append_right _ (List.mem_append_right _ ((List.mem_of_getElem? (i := 11) (by decide +kernel))))))) (by decide +kernel)
theorem m_640 : (Jvm.Cond.code ({ cls := "SharedEchoesModel", name := "tapOf", desc := "(II)I" } : Jvm.MethodName) prog_11_method_29_code (3 : Nat) (Option.some Jvm.ClassFile.FieldType.int)) ∈ LW := LW_in (List.mem_append_right _ (List.mem_append_right _ (List.mem_append_right _ (List.mem_append_right _ ((List.mem_of_getElem? (i := 12) (by decide +kernel))))))) (by decide +kernel)
theorem m_641 : (Jvm.Cond.constant "SharedEchoesModel" (88 : Nat) (-1000004 : Int32)) ∈ LW := LW_in (List.mem_append_right _ (List.mem_append_right _ (List.mem_append_right _ (List.mem_append_right _ ((List.mem_of_getElem? (i := 13) (by decide +kernel))))))) (by decide +kernel)
theorem m_642 : (Jvm.Cond.methodLink "SharedEchoesLaw" (60 : Nat) ({ cls := "SharedEchoesModel", name := "wordOf", desc := "(I)I" } : Jvm.MethodName)) ∈ LW := LW_in (List.mem_append_right _ (List.mem_append_right _ (List.mem_append_right _ (List.mem_append_right _ ((List.mem_of_getElem? (i := 14) (by decide +kernel))))))) (by decide +kernel)
theorem m_643 : (Jvm.Cond.instanceMethod ({ cls := "SharedEchoesModel", name := "wordOf", desc := "(I)I" } : Jvm.MethodName)) ∈ LW := LW_in (List.mem_append_right _ (List.mem_append_right _ (List.mem_append_right _ (List.mem_append_right _ ((List.mem_of_getElem? (i := 15) (by decide +kernel))))))) (by decide +kernel)
theorem m_644 : (Jvm.Cond.selects "SharedEchoesModel" ({ cls := "SharedEchoesModel", name := "wordOf", desc := "(I)I" } : Jvm.MethodName) ({ cls := "SharedEchoesModel", name := "wordOf", desc := "(I)I" } : Jvm.MethodName)) ∈ LW := LW_in (List.mem_append_right _ (List.mem_append_right _ (List.mem_append_right _ (List.mem_append_right _ ((List.mem_of_getElem? (i := 16) (by decide +kernel))))))) (by decide +kernel)
theorem m_645 : (Jvm.Cond.code ({ cls := "SharedEchoesModel", name := "wordOf", desc := "(I)I" } : Jvm.MethodName) prog_11_method_30_code (2 : Nat) (Option.some Jvm.ClassFile.FieldType.int)) ∈ LW := LW_in (List.mem_append_right _ (List.mem_append_right _ (List.mem_append_right _ (List.mem_append_right _ ((List.mem_of_getElem? (i := 17) (by decide +kernel))))))) (by decide +kernel)
theorem m_646 : (Jvm.Cond.methodLink "SharedEchoesLaw" (64 : Nat) ({ cls := "SharedEchoesModel", name := "outputOf", desc := "(I)I" } : Jvm.MethodName)) ∈ LW := LW_in (List.mem_append_right _ (List.mem_append_right _ (List.mem_append_right _ (List.mem_append_right _ ((List.mem_of_getElem? (i := 18) (by decide +kernel))))))) (by decide +kernel)
theorem m_647 : (Jvm.Cond.instanceMethod ({ cls := "SharedEchoesModel", name := "outputOf", desc := "(I)I" } : Jvm.MethodName)) ∈ LW := LW_in (List.mem_append_right _ (List.mem_append_right _ (List.mem_append_right _ (List.mem_append_right _ ((List.mem_of_getElem? (i := 19) (by decide +kernel))))))) (by decide +kernel)
theorem m_648 : (Jvm.Cond.selects "SharedEchoesModel" ({ cls := "SharedEchoesModel", name := "outputOf", desc := "(I)I" } : Jvm.MethodName) ({ cls := "SharedEchoesModel", name := "outputOf", desc := "(I)I" } : Jvm.MethodName)) ∈ LW := LW_in (List.mem_append_right _ (List.mem_append_right _ (List.mem_append_right _ (List.mem_append_right _ ((List.mem_of_getElem? (i := 20) (by decide +kernel))))))) (by decide +kernel)
theorem m_649 : (Jvm.Cond.code ({ cls := "SharedEchoesModel", name := "outputOf", desc := "(I)I" } : Jvm.MethodName) prog_11_method_31_code (2 : Nat) (Option.some Jvm.ClassFile.FieldType.int)) ∈ LW := LW_in (List.mem_append_right _ (List.mem_append_right _ (List.mem_append_right _ (List.mem_append_right _ ((List.mem_of_getElem? (i := 21) (by decide +kernel))))))) (by decide +kernel)
theorem m_650 : (Jvm.Cond.methodLink "SharedEchoesLaw" (68 : Nat) ({ cls := "SharedEchoesModel", name := "meter", desc := "(I)I" } : Jvm.MethodName)) ∈ LW := LW_in (List.mem_append_right _ (List.mem_append_right _ (List.mem_append_right _ (List.mem_append_right _ ((List.mem_of_getElem? (i := 22) (by decide +kernel))))))) (by decide +kernel)
theorem m_651 : (Jvm.Cond.instanceMethod ({ cls := "SharedEchoesModel", name := "meter", desc := "(I)I" } : Jvm.MethodName)) ∈ LW := LW_in (List.mem_append_right _ (List.mem_append_right _ (List.mem_append_right _ (List.mem_append_right _ ((List.mem_of_getElem? (i := 23) (by decide +kernel))))))) (by decide +kernel)
theorem m_652 : (Jvm.Cond.selects "SharedEchoesModel" ({ cls := "SharedEchoesModel", name := "meter", desc := "(I)I" } : Jvm.MethodName) ({ cls := "SharedEchoesModel", name := "meter", desc := "(I)I" } : Jvm.MethodName)) ∈ LW := LW_in (List.mem_append_right _ (List.mem_append_right _ (List.mem_append_right _ (List.mem_append_right _ ((List.mem_of_getElem? (i := 24) (by decide +kernel))))))) (by decide +kernel)
theorem m_653 : (Jvm.Cond.code ({ cls := "SharedEchoesModel", name := "meter", desc := "(I)I" } : Jvm.MethodName) prog_11_method_32_code (2 : Nat) (Option.some Jvm.ClassFile.FieldType.int)) ∈ LW := LW_in (List.mem_append_right _ (List.mem_append_right _ (List.mem_append_right _ (List.mem_append_right _ ((List.mem_of_getElem? (i := 25) (by decide +kernel))))))) (by decide +kernel)
theorem m_654 : (Jvm.Cond.methodLink "SharedEchoesModel" (89 : Nat) ({ cls := "java/lang/Float", name := "floatToIntBits", desc := "(F)I" } : Jvm.MethodName)) ∈ LW := LW_in (List.mem_append_right _ (List.mem_append_right _ (List.mem_append_right _ (List.mem_append_right _ ((List.mem_of_getElem? (i := 26) (by decide +kernel))))))) (by decide +kernel)
theorem m_655 : (Jvm.Cond.static ({ cls := "java/lang/Float", name := "floatToIntBits", desc := "(F)I" } : Jvm.MethodName)) ∈ LW := LW_in (List.mem_append_right _ (List.mem_append_right _ (List.mem_append_right _ (List.mem_append_right _ ((List.mem_of_getElem? (i := 27) (by decide +kernel))))))) (by decide +kernel)
theorem m_656 : (Jvm.Cond.code ({ cls := "java/lang/Float", name := "floatToIntBits", desc := "(F)I" } : Jvm.MethodName) prog_12_method_24_code (1 : Nat) (Option.some Jvm.ClassFile.FieldType.int)) ∈ LW := LW_in (List.mem_append_right _ (List.mem_append_right _ (List.mem_append_right _ (List.mem_append_right _ ((List.mem_of_getElem? (i := 28) (by decide +kernel))))))) (by decide +kernel)
theorem m_657 : (Jvm.Cond.methodLink "java/lang/Float" (59 : Nat) ({ cls := "java/lang/Float", name := "isNaN", desc := "(F)Z" } : Jvm.MethodName)) ∈ LW := LW_in (List.mem_append_right _ (List.mem_append_right _ (List.mem_append_right _ (List.mem_append_right _ ((List.mem_of_getElem? (i := 29) (by decide +kernel))))))) (by decide +kernel)
theorem m_658 : (Jvm.Cond.static ({ cls := "java/lang/Float", name := "isNaN", desc := "(F)Z" } : Jvm.MethodName)) ∈ LW := LW_in (List.mem_append_right _ (List.mem_append_right _ (List.mem_append_right _ (List.mem_append_right _ ((List.mem_of_getElem? (i := 30) (by decide +kernel))))))) (by decide +kernel)
theorem m_659 : (Jvm.Cond.code ({ cls := "java/lang/Float", name := "isNaN", desc := "(F)Z" } : Jvm.MethodName) prog_12_method_6_code (1 : Nat) (Option.some Jvm.ClassFile.FieldType.boolean)) ∈ LW := LW_in (List.mem_append_right _ (List.mem_append_right _ (List.mem_append_right _ (List.mem_append_right _ ((List.mem_of_getElem? (i := 31) (by decide +kernel))))))) (by decide +kernel)
theorem m_660 : (Jvm.Cond.methodLink "java/lang/Float" (74 : Nat) ({ cls := "java/lang/Float", name := "floatToRawIntBits", desc := "(F)I" } : Jvm.MethodName)) ∈ LW := LW_in (List.mem_append_right _ (List.mem_append_right _ (List.mem_append_right _ (List.mem_append_right _ ((List.mem_of_getElem? (i := 32) (by decide +kernel))))))) (by decide +kernel)
theorem m_661 : (Jvm.Cond.static ({ cls := "java/lang/Float", name := "floatToRawIntBits", desc := "(F)I" } : Jvm.MethodName)) ∈ LW := LW_in (List.mem_append_right _ (List.mem_append_right _ (List.mem_append_right _ (List.mem_append_right _ ((List.mem_of_getElem? (i := 33) (by decide +kernel))))))) (by decide +kernel)
theorem m_662 : (Jvm.Cond.native ({ cls := "java/lang/Float", name := "floatToRawIntBits", desc := "(F)I" } : Jvm.MethodName)) ∈ LW := LW_in (List.mem_append_right _ (List.mem_append_right _ (List.mem_append_right _ (List.mem_append_right _ ((List.mem_of_getElem? (i := 34) (by decide +kernel))))))) (by decide +kernel)
theorem m_663 : (Jvm.Cond.constant "java/lang/Float" (77 : Nat) (2143289344 : Int32)) ∈ LW := LW_in (List.mem_append_right _ (List.mem_append_right _ (List.mem_append_right _ (List.mem_append_right _ ((List.mem_of_getElem? (i := 35) (by decide +kernel))))))) (by decide +kernel)
theorem m_664 : (Jvm.Cond.methodLink "SharedEchoesLaw" (72 : Nat) ({ cls := "SharedEchoesModel", name := "echo", desc := "(II)I" } : Jvm.MethodName)) ∈ LW := LW_in (List.mem_append_right _ (List.mem_append_right _ (List.mem_append_right _ (List.mem_append_right _ ((List.mem_of_getElem? (i := 36) (by decide +kernel))))))) (by decide +kernel)
theorem m_665 : (Jvm.Cond.instanceMethod ({ cls := "SharedEchoesModel", name := "echo", desc := "(II)I" } : Jvm.MethodName)) ∈ LW := LW_in (List.mem_append_right _ (List.mem_append_right _ (List.mem_append_right _ (List.mem_append_right _ ((List.mem_of_getElem? (i := 37) (by decide +kernel))))))) (by decide +kernel)
theorem m_666 : (Jvm.Cond.selects "SharedEchoesModel" ({ cls := "SharedEchoesModel", name := "echo", desc := "(II)I" } : Jvm.MethodName) ({ cls := "SharedEchoesModel", name := "echo", desc := "(II)I" } : Jvm.MethodName)) ∈ LW := LW_in (List.mem_append_right _ (List.mem_append_right _ (List.mem_append_right _ (List.mem_append_right _ ((List.mem_of_getElem? (i := 38) (by decide +kernel))))))) (by decide +kernel)
theorem m_667 : (Jvm.Cond.code ({ cls := "SharedEchoesModel", name := "echo", desc := "(II)I" } : Jvm.MethodName) prog_11_method_34_code (5 : Nat) (Option.some Jvm.ClassFile.FieldType.int)) ∈ LW := LW_in (List.mem_append_right _ (List.mem_append_right _ (List.mem_append_right _ (List.mem_append_right _ ((List.mem_of_getElem? (i := 39) (by decide +kernel))))))) (by decide +kernel)
theorem m_668 : (Jvm.Cond.methodLink "SharedEchoesModel" (95 : Nat) ({ cls := "SharedEchoesModel", name := "silenced", desc := "()V" } : Jvm.MethodName)) ∈ LW := LW_in (List.mem_append_right _ (List.mem_append_right _ (List.mem_append_right _ (List.mem_append_right _ ((List.mem_of_getElem? (i := 40) (by decide +kernel))))))) (by decide +kernel)
theorem m_669 : (Jvm.Cond.instanceMethod ({ cls := "SharedEchoesModel", name := "silenced", desc := "()V" } : Jvm.MethodName)) ∈ LW := LW_in (List.mem_append_right _ (List.mem_append_right _ (List.mem_append_right _ (List.mem_append_right _ ((List.mem_of_getElem? (i := 42) (by decide +kernel))))))) (by decide +kernel)
theorem m_670 : (Jvm.Cond.code ({ cls := "SharedEchoesModel", name := "silenced", desc := "()V" } : Jvm.MethodName) prog_11_method_33_code (2 : Nat) (Option.none : Option Jvm.ClassFile.FieldType)) ∈ LW := LW_in (List.mem_append_right _ (List.mem_append_right _ (List.mem_append_right _ (List.mem_append_right _ ((List.mem_of_getElem? (i := 43) (by decide +kernel))))))) (by decide +kernel)
theorem m_671 : (Jvm.Cond.methodLink "SharedEchoesLaw" (76 : Nat) ({ cls := "SharedEchoesModel", name := "quietAfter", desc := "(I)I" } : Jvm.MethodName)) ∈ LW := LW_in (List.mem_append_right _ (List.mem_append_right _ (List.mem_append_right _ (List.mem_append_right _ ((List.mem_of_getElem? (i := 44) (by decide +kernel))))))) (by decide +kernel)
theorem m_672 : (Jvm.Cond.instanceMethod ({ cls := "SharedEchoesModel", name := "quietAfter", desc := "(I)I" } : Jvm.MethodName)) ∈ LW := LW_in (List.mem_append_right _ (List.mem_append_right _ (List.mem_append_right _ (List.mem_append_right _ ((List.mem_of_getElem? (i := 45) (by decide +kernel))))))) (by decide +kernel)
theorem m_673 : (Jvm.Cond.selects "SharedEchoesModel" ({ cls := "SharedEchoesModel", name := "quietAfter", desc := "(I)I" } : Jvm.MethodName) ({ cls := "SharedEchoesModel", name := "quietAfter", desc := "(I)I" } : Jvm.MethodName)) ∈ LW := LW_in (List.mem_append_right _ (List.mem_append_right _ (List.mem_append_right _ (List.mem_append_right _ ((List.mem_of_getElem? (i := 46) (by decide +kernel))))))) (by decide +kernel)
theorem m_674 : (Jvm.Cond.code ({ cls := "SharedEchoesModel", name := "quietAfter", desc := "(I)I" } : Jvm.MethodName) prog_11_method_35_code (3 : Nat) (Option.some Jvm.ClassFile.FieldType.int)) ∈ LW := LW_in (List.mem_append_right _ (List.mem_append_right _ (List.mem_append_right _ (List.mem_append_right _ ((List.mem_of_getElem? (i := 47) (by decide +kernel))))))) (by decide +kernel)
theorem m_675 : (Jvm.Cond.methodLink "SharedEchoesModel" (98 : Nat) ({ cls := "SharedEchoesModel", name := "greatestWord", desc := "(I)I" } : Jvm.MethodName)) ∈ LW := LW_in (List.mem_append_right _ (List.mem_append_right _ (List.mem_append_right _ (List.mem_append_right _ ((List.mem_of_getElem? (i := 48) (by decide +kernel))))))) (by decide +kernel)
theorem m_676 : (Jvm.Cond.instanceMethod ({ cls := "SharedEchoesModel", name := "greatestWord", desc := "(I)I" } : Jvm.MethodName)) ∈ LW := LW_in (List.mem_append_right _ (List.mem_append_right _ (List.mem_append_right _ (List.mem_append_right _ ((List.mem_of_getElem? (i := 50) (by decide +kernel))))))) (by decide +kernel)
theorem m_677 : (Jvm.Cond.code ({ cls := "SharedEchoesModel", name := "greatestWord", desc := "(I)I" } : Jvm.MethodName) prog_11_method_13_code (5 : Nat) (Option.some Jvm.ClassFile.FieldType.int)) ∈ LW := LW_in (List.mem_append_right _ (List.mem_append_right _ (List.mem_append_right _ (List.mem_append_right _ ((List.mem_of_getElem? (i := 51) (by decide +kernel))))))) (by decide +kernel)
theorem m_678 : (Jvm.Cond.methodLink "SharedEchoesLaw" (80 : Nat) ({ cls := "SharedEchoesModel", name := "loudest", desc := "()I" } : Jvm.MethodName)) ∈ LW := LW_in (List.mem_append_right _ (List.mem_append_right _ (List.mem_append_right _ (List.mem_append_right _ ((List.mem_of_getElem? (i := 52) (by decide +kernel))))))) (by decide +kernel)
theorem m_679 : (Jvm.Cond.instanceMethod ({ cls := "SharedEchoesModel", name := "loudest", desc := "()I" } : Jvm.MethodName)) ∈ LW := LW_in (List.mem_append_right _ (List.mem_append_right _ (List.mem_append_right _ (List.mem_append_right _ ((List.mem_of_getElem? (i := 53) (by decide +kernel))))))) (by decide +kernel)
theorem m_680 : (Jvm.Cond.selects "SharedEchoesModel" ({ cls := "SharedEchoesModel", name := "loudest", desc := "()I" } : Jvm.MethodName) ({ cls := "SharedEchoesModel", name := "loudest", desc := "()I" } : Jvm.MethodName)) ∈ LW := LW_in (List.mem_append_right _ (List.mem_append_right _ (List.mem_append_right _ (List.mem_append_right _ ((List.mem_of_getElem? (i := 54) (by decide +kernel))))))) (by decide +kernel)
theorem m_681 : (Jvm.Cond.code ({ cls := "SharedEchoesModel", name := "loudest", desc := "()I" } : Jvm.MethodName) prog_11_method_36_code (3 : Nat) (Option.some Jvm.ClassFile.FieldType.int)) ∈ LW := LW_in (List.mem_append_right _ (List.mem_append_right _ (List.mem_append_right _ (List.mem_append_right _ ((List.mem_of_getElem? (i := 55) (by decide +kernel))))))) (by decide +kernel)
theorem m_682 : (Jvm.Cond.methodLink "SharedEchoesLaw" (84 : Nat) ({ cls := "SharedEchoesModel", name := "safeGain", desc := "(II)I" } : Jvm.MethodName)) ∈ LW := LW_in (List.mem_append_right _ (List.mem_append_right _ (List.mem_append_right _ (List.mem_append_right _ ((List.mem_of_getElem? (i := 56) (by decide +kernel))))))) (by decide +kernel)
theorem m_683 : (Jvm.Cond.instanceMethod ({ cls := "SharedEchoesModel", name := "safeGain", desc := "(II)I" } : Jvm.MethodName)) ∈ LW := LW_in (List.mem_append_right _ (List.mem_append_right _ (List.mem_append_right _ (List.mem_append_right _ ((List.mem_of_getElem? (i := 57) (by decide +kernel))))))) (by decide +kernel)
theorem m_684 : (Jvm.Cond.selects "SharedEchoesModel" ({ cls := "SharedEchoesModel", name := "safeGain", desc := "(II)I" } : Jvm.MethodName) ({ cls := "SharedEchoesModel", name := "safeGain", desc := "(II)I" } : Jvm.MethodName)) ∈ LW := LW_in (List.mem_append_right _ (List.mem_append_right _ (List.mem_append_right _ (List.mem_append_right _ ((List.mem_of_getElem? (i := 58) (by decide +kernel))))))) (by decide +kernel)
theorem m_685 : (Jvm.Cond.code ({ cls := "SharedEchoesModel", name := "safeGain", desc := "(II)I" } : Jvm.MethodName) prog_11_method_38_code (6 : Nat) (Option.some Jvm.ClassFile.FieldType.int)) ∈ LW := LW_in (List.mem_append_right _ (List.mem_append_right _ (List.mem_append_right _ (List.mem_append_right _ ((List.mem_of_getElem? (i := 59) (by decide +kernel))))))) (by decide +kernel)
theorem m_686 : (Jvm.Cond.methodLink "SharedEchoesModel" (101 : Nat) ({ cls := "SharedEchoesModel", name := "isQuiet", desc := "(III)Z" } : Jvm.MethodName)) ∈ LW := LW_in (List.mem_append_right _ (List.mem_append_right _ (List.mem_append_right _ (List.mem_append_right _ ((List.mem_of_getElem? (i := 60) (by decide +kernel))))))) (by decide +kernel)
theorem m_687 : (Jvm.Cond.instanceMethod ({ cls := "SharedEchoesModel", name := "isQuiet", desc := "(III)Z" } : Jvm.MethodName)) ∈ LW := LW_in (List.mem_append_right _ (List.mem_append_right _ (List.mem_append_right _ (List.mem_append_right _ ((List.mem_of_getElem? (i := 62) (by decide +kernel))))))) (by decide +kernel)
theorem m_688 : (Jvm.Cond.code ({ cls := "SharedEchoesModel", name := "isQuiet", desc := "(III)Z" } : Jvm.MethodName) prog_11_method_37_code (5 : Nat) (Option.some Jvm.ClassFile.FieldType.boolean)) ∈ LW := LW_in (List.mem_append_right _ (List.mem_append_right _ (List.mem_append_right _ (List.mem_append_right _ ((List.mem_of_getElem? (i := 63) (by decide +kernel))))))) (by decide +kernel)
theorem m_689 : (Jvm.Cond.methodLink "SharedEchoesLaw" (88 : Nat) ({ cls := "SharedEchoesModel", name := "count", desc := "(I)I" } : Jvm.MethodName)) ∈ LW := LW_in (List.mem_append_right _ (List.mem_append_right _ (List.mem_append_right _ (List.mem_append_right _ ((List.mem_of_getElem? (i := 64) (by decide +kernel))))))) (by decide +kernel)
theorem m_690 : (Jvm.Cond.instanceMethod ({ cls := "SharedEchoesModel", name := "count", desc := "(I)I" } : Jvm.MethodName)) ∈ LW := LW_in (List.mem_append_right _ (List.mem_append_right _ (List.mem_append_right _ (List.mem_append_right _ ((List.mem_of_getElem? (i := 65) (by decide +kernel))))))) (by decide +kernel)
theorem m_691 : (Jvm.Cond.selects "SharedEchoesModel" ({ cls := "SharedEchoesModel", name := "count", desc := "(I)I" } : Jvm.MethodName) ({ cls := "SharedEchoesModel", name := "count", desc := "(I)I" } : Jvm.MethodName)) ∈ LW := LW_in (List.mem_append_right _ (List.mem_append_right _ (List.mem_append_right _ (List.mem_append_right _ ((List.mem_of_getElem? (i := 66) (by decide +kernel))))))) (by decide +kernel)
theorem m_692 : (Jvm.Cond.code ({ cls := "SharedEchoesModel", name := "count", desc := "(I)I" } : Jvm.MethodName) prog_11_method_41_code (2 : Nat) (Option.some Jvm.ClassFile.FieldType.int)) ∈ LW := LW_in (List.mem_append_right _ (List.mem_append_right _ (List.mem_append_right _ (List.mem_append_right _ ((List.mem_of_getElem? (i := 67) (by decide +kernel))))))) (by decide +kernel)
theorem m_693 : (Jvm.Cond.methodLink "SharedEchoesModel" (104 : Nat) ({ cls := "SharedEchoesModel", name := "taps", desc := "(Z)I" } : Jvm.MethodName)) ∈ LW := LW_in (List.mem_append_right _ (List.mem_append_right _ (List.mem_append_right _ (List.mem_append_right _ ((List.mem_of_getElem? (i := 68) (by decide +kernel))))))) (by decide +kernel)
theorem m_694 : (Jvm.Cond.instanceMethod ({ cls := "SharedEchoesModel", name := "taps", desc := "(Z)I" } : Jvm.MethodName)) ∈ LW := LW_in (List.mem_append_right _ (List.mem_append_right _ (List.mem_append_right _ (List.mem_append_right _ ((List.mem_of_getElem? (i := 70) (by decide +kernel))))))) (by decide +kernel)
theorem m_695 : (Jvm.Cond.code ({ cls := "SharedEchoesModel", name := "taps", desc := "(Z)I" } : Jvm.MethodName) prog_11_method_40_code (4 : Nat) (Option.some Jvm.ClassFile.FieldType.int)) ∈ LW := LW_in (List.mem_append_right _ (List.mem_append_right _ (List.mem_append_right _ (List.mem_append_right _ ((List.mem_of_getElem? (i := 71) (by decide +kernel))))))) (by decide +kernel)
theorem m_696 : (Jvm.Cond.methodLink "SharedEchoesModel" (108 : Nat) ({ cls := "SharedEchoesModel", name := "words", desc := "(Z)I" } : Jvm.MethodName)) ∈ LW := LW_in (List.mem_append_right _ (List.mem_append_right _ (List.mem_append_right _ (List.mem_append_right _ ((List.mem_of_getElem? (i := 72) (by decide +kernel))))))) (by decide +kernel)
theorem m_697 : (Jvm.Cond.instanceMethod ({ cls := "SharedEchoesModel", name := "words", desc := "(Z)I" } : Jvm.MethodName)) ∈ LW := LW_in (List.mem_append_right _ (List.mem_append_right _ (List.mem_append_right _ (List.mem_append_right _ ((List.mem_of_getElem? (i := 74) (by decide +kernel))))))) (by decide +kernel)
theorem m_698 : (Jvm.Cond.code ({ cls := "SharedEchoesModel", name := "words", desc := "(Z)I" } : Jvm.MethodName) prog_11_method_39_code (4 : Nat) (Option.some Jvm.ClassFile.FieldType.int)) ∈ LW := LW_in (List.mem_append_right _ (List.mem_append_right _ (List.mem_append_right _ (List.mem_append_right _ ((List.mem_of_getElem? (i := 75) (by decide +kernel))))))) (by decide +kernel)
theorem m_699 : (Jvm.Cond.methodLink "SharedEchoesLaw" (92 : Nat) ({ cls := "SharedEchoesModel", name := "undo", desc := "()I" } : Jvm.MethodName)) ∈ LW := LW_in (List.mem_append_right _ (List.mem_append_right _ (List.mem_append_right _ (List.mem_append_right _ ((List.mem_of_getElem? (i := 76) (by decide +kernel))))))) (by decide +kernel)
theorem m_700 : (Jvm.Cond.instanceMethod ({ cls := "SharedEchoesModel", name := "undo", desc := "()I" } : Jvm.MethodName)) ∈ LW := LW_in (List.mem_append_right _ (List.mem_append_right _ (List.mem_append_right _ (List.mem_append_right _ ((List.mem_of_getElem? (i := 77) (by decide +kernel))))))) (by decide +kernel)
theorem m_701 : (Jvm.Cond.selects "SharedEchoesModel" ({ cls := "SharedEchoesModel", name := "undo", desc := "()I" } : Jvm.MethodName) ({ cls := "SharedEchoesModel", name := "undo", desc := "()I" } : Jvm.MethodName)) ∈ LW := LW_in (List.mem_append_right _ (List.mem_append_right _ (List.mem_append_right _ (List.mem_append_right _ ((List.mem_of_getElem? (i := 78) (by decide +kernel))))))) (by decide +kernel)
theorem m_702 : (Jvm.Cond.code ({ cls := "SharedEchoesModel", name := "undo", desc := "()I" } : Jvm.MethodName) prog_11_method_42_code (1 : Nat) (Option.some Jvm.ClassFile.FieldType.int)) ∈ LW := LW_in (List.mem_append_right _ (List.mem_append_right _ (List.mem_append_right _ (List.mem_append_right _ ((List.mem_of_getElem? (i := 79) (by decide +kernel))))))) (by decide +kernel)
theorem m_703 : (Jvm.Cond.methodLink "SharedEchoesLaw" (96 : Nat) ({ cls := "SharedEchoesModel", name := "type", desc := "(I)I" } : Jvm.MethodName)) ∈ LW := LW_in (List.mem_append_right _ (List.mem_append_right _ (List.mem_append_right _ (List.mem_append_right _ ((List.mem_of_getElem? (i := 80) (by decide +kernel))))))) (by decide +kernel)
theorem m_704 : (Jvm.Cond.instanceMethod ({ cls := "SharedEchoesModel", name := "type", desc := "(I)I" } : Jvm.MethodName)) ∈ LW := LW_in (List.mem_append_right _ (List.mem_append_right _ (List.mem_append_right _ (List.mem_append_right _ ((List.mem_of_getElem? (i := 81) (by decide +kernel))))))) (by decide +kernel)
theorem m_705 : (Jvm.Cond.selects "SharedEchoesModel" ({ cls := "SharedEchoesModel", name := "type", desc := "(I)I" } : Jvm.MethodName) ({ cls := "SharedEchoesModel", name := "type", desc := "(I)I" } : Jvm.MethodName)) ∈ LW := LW_in (List.mem_append_right _ (List.mem_append_right _ (List.mem_append_right _ (List.mem_append_right _ ((List.mem_of_getElem? (i := 82) (by decide +kernel))))))) (by decide +kernel)
theorem m_706 : (Jvm.Cond.code ({ cls := "SharedEchoesModel", name := "type", desc := "(I)I" } : Jvm.MethodName) prog_11_method_43_code (2 : Nat) (Option.some Jvm.ClassFile.FieldType.int)) ∈ LW := LW_in (List.mem_append_right _ (List.mem_append_right _ (List.mem_append_right _ (List.mem_append_right _ ((List.mem_of_getElem? (i := 83) (by decide +kernel))))))) (by decide +kernel)
theorem m_707 : (Jvm.Cond.methodLink "SharedEchoesLaw" (100 : Nat) ({ cls := "SharedEchoesModel", name := "clearText", desc := "()I" } : Jvm.MethodName)) ∈ LW := LW_in (List.mem_append_right _ (List.mem_append_right _ (List.mem_append_right _ (List.mem_append_right _ ((List.mem_of_getElem? (i := 84) (by decide +kernel))))))) (by decide +kernel)
theorem m_708 : (Jvm.Cond.instanceMethod ({ cls := "SharedEchoesModel", name := "clearText", desc := "()I" } : Jvm.MethodName)) ∈ LW := LW_in (List.mem_append_right _ (List.mem_append_right _ (List.mem_append_right _ (List.mem_append_right _ ((List.mem_of_getElem? (i := 85) (by decide +kernel))))))) (by decide +kernel)
theorem m_709 : (Jvm.Cond.selects "SharedEchoesModel" ({ cls := "SharedEchoesModel", name := "clearText", desc := "()I" } : Jvm.MethodName) ({ cls := "SharedEchoesModel", name := "clearText", desc := "()I" } : Jvm.MethodName)) ∈ LW := LW_in (List.mem_append_right _ (List.mem_append_right _ (List.mem_append_right _ (List.mem_append_right _ ((List.mem_of_getElem? (i := 86) (by decide +kernel))))))) (by decide +kernel)
theorem m_710 : (Jvm.Cond.code ({ cls := "SharedEchoesModel", name := "clearText", desc := "()I" } : Jvm.MethodName) prog_11_method_44_code (2 : Nat) (Option.some Jvm.ClassFile.FieldType.int)) ∈ LW := LW_in (List.mem_append_right _ (List.mem_append_right _ (List.mem_append_right _ (List.mem_append_right _ ((List.mem_of_getElem? (i := 87) (by decide +kernel))))))) (by decide +kernel)
theorem m_711 : (Jvm.Cond.methodLink "SharedEchoesLaw" (104 : Nat) ({ cls := "SharedEchoesModel", name := "fault", desc := "(I)I" } : Jvm.MethodName)) ∈ LW := LW_in (List.mem_append_right _ (List.mem_append_right _ (List.mem_append_right _ (List.mem_append_right _ ((List.mem_of_getElem? (i := 88) (by decide +kernel))))))) (by decide +kernel)
theorem m_712 : (Jvm.Cond.instanceMethod ({ cls := "SharedEchoesModel", name := "fault", desc := "(I)I" } : Jvm.MethodName)) ∈ LW := LW_in (List.mem_append_right _ (List.mem_append_right _ (List.mem_append_right _ (List.mem_append_right _ ((List.mem_of_getElem? (i := 89) (by decide +kernel))))))) (by decide +kernel)
theorem m_713 : (Jvm.Cond.selects "SharedEchoesModel" ({ cls := "SharedEchoesModel", name := "fault", desc := "(I)I" } : Jvm.MethodName) ({ cls := "SharedEchoesModel", name := "fault", desc := "(I)I" } : Jvm.MethodName)) ∈ LW := LW_in (List.mem_append_right _ (List.mem_append_right _ (List.mem_append_right _ (List.mem_append_right _ ((List.mem_of_getElem? (i := 90) (by decide +kernel))))))) (by decide +kernel)
theorem m_714 : (Jvm.Cond.code ({ cls := "SharedEchoesModel", name := "fault", desc := "(I)I" } : Jvm.MethodName) prog_11_method_51_code (3 : Nat) (Option.some Jvm.ClassFile.FieldType.int)) ∈ LW := LW_in (List.mem_append_right _ (List.mem_append_right _ (List.mem_append_right _ (List.mem_append_right _ ((List.mem_of_getElem? (i := 91) (by decide +kernel))))))) (by decide +kernel)
theorem m_715 : (Jvm.Cond.methodLink "SharedEchoesModel" (141 : Nat) ({ cls := "SharedEchoesModel", name := "goesOn", desc := "()I" } : Jvm.MethodName)) ∈ LW := LW_in (List.mem_append_right _ (List.mem_append_right _ (List.mem_append_right _ (List.mem_append_right _ ((List.mem_of_getElem? (i := 92) (by decide +kernel))))))) (by decide +kernel)
theorem m_716 : (Jvm.Cond.instanceMethod ({ cls := "SharedEchoesModel", name := "goesOn", desc := "()I" } : Jvm.MethodName)) ∈ LW := LW_in (List.mem_append_right _ (List.mem_append_right _ (List.mem_append_right _ (List.mem_append_right _ ((List.mem_of_getElem? (i := 94) (by decide +kernel))))))) (by decide +kernel)
theorem m_717 : (Jvm.Cond.code ({ cls := "SharedEchoesModel", name := "goesOn", desc := "()I" } : Jvm.MethodName) prog_11_method_50_code (5 : Nat) (Option.some Jvm.ClassFile.FieldType.int)) ∈ LW := LW_in (List.mem_append_right _ (List.mem_append_right _ (List.mem_append_right _ (List.mem_append_right _ ((List.mem_of_getElem? (i := 95) (by decide +kernel))))))) (by decide +kernel)
theorem m_718 : (Jvm.Cond.methodLink "SharedEchoesModel" (117 : Nat) ({ cls := "SharedEchoesModel", name := "sign", desc := "()I" } : Jvm.MethodName)) ∈ LW := LW_in (List.mem_append_right _ (List.mem_append_right _ (List.mem_append_right _ (List.mem_append_right _ ((List.mem_of_getElem? (i := 96) (by decide +kernel))))))) (by decide +kernel)
theorem m_719 : (Jvm.Cond.instanceMethod ({ cls := "SharedEchoesModel", name := "sign", desc := "()I" } : Jvm.MethodName)) ∈ LW := LW_in (List.mem_append_right _ (List.mem_append_right _ (List.mem_append_right _ (List.mem_append_right _ ((List.mem_of_getElem? (i := 98) (by decide +kernel))))))) (by decide +kernel)
theorem m_720 : (Jvm.Cond.code ({ cls := "SharedEchoesModel", name := "sign", desc := "()I" } : Jvm.MethodName) prog_11_method_45_code (1 : Nat) (Option.some Jvm.ClassFile.FieldType.int)) ∈ LW := LW_in (List.mem_append_right _ (List.mem_append_right _ (List.mem_append_right _ (List.mem_append_right _ ((List.mem_of_getElem? (i := 99) (by decide +kernel))))))) (by decide +kernel)
theorem m_721 : (Jvm.Cond.methodLink "SharedEchoesModel" (129 : Nat) ({ cls := "SharedEchoesModel", name := "order", desc := "(I)Z" } : Jvm.MethodName)) ∈ LW := LW_in (List.mem_append_right _ (List.mem_append_right _ (List.mem_append_right _ (List.mem_append_right _ ((List.mem_of_getElem? (i := 100) (by decide +kernel))))))) (by decide +kernel)
theorem m_722 : (Jvm.Cond.instanceMethod ({ cls := "SharedEchoesModel", name := "order", desc := "(I)Z" } : Jvm.MethodName)) ∈ LW := LW_in (List.mem_append_right _ (List.mem_append_right _ (List.mem_append_right _ (List.mem_append_right _ ((List.mem_of_getElem? (i := 102) (by decide +kernel))))))) (by decide +kernel)
theorem m_723 : (Jvm.Cond.code ({ cls := "SharedEchoesModel", name := "order", desc := "(I)Z" } : Jvm.MethodName) prog_11_method_48_code (3 : Nat) (Option.some Jvm.ClassFile.FieldType.boolean)) ∈ LW := LW_in (List.mem_append_right _ (List.mem_append_right _ (List.mem_append_right _ (List.mem_append_right _ ((List.mem_of_getElem? (i := 103) (by decide +kernel))))))) (by decide +kernel)
theorem m_724 : (Jvm.Cond.methodLink "SharedEchoesModel" (121 : Nat) ({ cls := "SharedEchoesModel", name := "number", desc := "(IZ)Z" } : Jvm.MethodName)) ∈ LW := LW_in (List.mem_append_right _ (List.mem_append_right _ (List.mem_append_right _ (List.mem_append_right _ ((List.mem_of_getElem? (i := 104) (by decide +kernel))))))) (by decide +kernel)
theorem m_725 : (Jvm.Cond.instanceMethod ({ cls := "SharedEchoesModel", name := "number", desc := "(IZ)Z" } : Jvm.MethodName)) ∈ LW := LW_in (List.mem_append_right _ (List.mem_append_right _ (List.mem_append_right _ (List.mem_append_right _ ((List.mem_of_getElem? (i := 106) (by decide +kernel))))))) (by decide +kernel)
theorem m_726 : (Jvm.Cond.code ({ cls := "SharedEchoesModel", name := "number", desc := "(IZ)Z" } : Jvm.MethodName) prog_11_method_46_code (6 : Nat) (Option.some Jvm.ClassFile.FieldType.boolean)) ∈ LW := LW_in (List.mem_append_right _ (List.mem_append_right _ (List.mem_append_right _ (List.mem_append_right _ ((List.mem_of_getElem? (i := 107) (by decide +kernel))))))) (by decide +kernel)
theorem m_727 : (Jvm.Cond.methodLink "SharedEchoesModel" (125 : Nat) ({ cls := "SharedEchoesModel", name := "takes", desc := "(I)Z" } : Jvm.MethodName)) ∈ LW := LW_in (List.mem_append_right _ (List.mem_append_right _ (List.mem_append_right _ (List.mem_append_right _ ((List.mem_of_getElem? (i := 108) (by decide +kernel))))))) (by decide +kernel)
theorem m_728 : (Jvm.Cond.instanceMethod ({ cls := "SharedEchoesModel", name := "takes", desc := "(I)Z" } : Jvm.MethodName)) ∈ LW := LW_in (List.mem_append_right _ (List.mem_append_right _ (List.mem_append_right _ (List.mem_append_right _ ((List.mem_of_getElem? (i := 110) (by decide +kernel))))))) (by decide +kernel)
theorem m_729 : (Jvm.Cond.code ({ cls := "SharedEchoesModel", name := "takes", desc := "(I)Z" } : Jvm.MethodName) prog_11_method_47_code (2 : Nat) (Option.some Jvm.ClassFile.FieldType.boolean)) ∈ LW := LW_in (List.mem_append_right _ (List.mem_append_right _ (List.mem_append_right _ (List.mem_append_right _ ((List.mem_of_getElem? (i := 111) (by decide +kernel))))))) (by decide +kernel)
theorem m_730 : (Jvm.Cond.methodLink "SharedEchoesModel" (138 : Nat) ({ cls := "SharedEchoesModel", name := "does", desc := "(I)I" } : Jvm.MethodName)) ∈ LW := LW_in (List.mem_append_right _ (List.mem_append_right _ (List.mem_append_right _ (List.mem_append_right _ ((List.mem_of_getElem? (i := 112) (by decide +kernel))))))) (by decide +kernel)
theorem m_731 : (Jvm.Cond.instanceMethod ({ cls := "SharedEchoesModel", name := "does", desc := "(I)I" } : Jvm.MethodName)) ∈ LW := LW_in (List.mem_append_right _ (List.mem_append_right _ (List.mem_append_right _ (List.mem_append_right _ ((List.mem_of_getElem? (i := 114) (by decide +kernel))))))) (by decide +kernel)
theorem m_732 : (Jvm.Cond.code ({ cls := "SharedEchoesModel", name := "does", desc := "(I)I" } : Jvm.MethodName) prog_11_method_49_code (2 : Nat) (Option.some Jvm.ClassFile.FieldType.int)) ∈ LW := LW_in (List.mem_append_right _ (List.mem_append_right _ (List.mem_append_right _ (List.mem_append_right _ ((List.mem_of_getElem? (i := 115) (by decide +kernel))))))) (by decide +kernel)
theorem m_733 : (Jvm.Cond.methodLink "SharedEchoesLaw" (108 : Nat) ({ cls := "SharedEchoesModel", name := "play", desc := "()I" } : Jvm.MethodName)) ∈ LW := LW_in (List.mem_append_right _ (List.mem_append_right _ (List.mem_append_right _ (List.mem_append_right _ ((List.mem_of_getElem? (i := 116) (by decide +kernel))))))) (by decide +kernel)
theorem m_734 : (Jvm.Cond.instanceMethod ({ cls := "SharedEchoesModel", name := "play", desc := "()I" } : Jvm.MethodName)) ∈ LW := LW_in (List.mem_append_right _ (List.mem_append_right _ (List.mem_append_right _ (List.mem_append_right _ ((List.mem_of_getElem? (i := 117) (by decide +kernel))))))) (by decide +kernel)
theorem m_735 : (Jvm.Cond.selects "SharedEchoesModel" ({ cls := "SharedEchoesModel", name := "play", desc := "()I" } : Jvm.MethodName) ({ cls := "SharedEchoesModel", name := "play", desc := "()I" } : Jvm.MethodName)) ∈ LW := LW_in (List.mem_append_right _ (List.mem_append_right _ (List.mem_append_right _ (List.mem_append_right _ ((List.mem_of_getElem? (i := 118) (by decide +kernel))))))) (by decide +kernel)
theorem m_736 : (Jvm.Cond.code ({ cls := "SharedEchoesModel", name := "play", desc := "()I" } : Jvm.MethodName) prog_11_method_52_code (2 : Nat) (Option.some Jvm.ClassFile.FieldType.int)) ∈ LW := LW_in (List.mem_append_right _ (List.mem_append_right _ (List.mem_append_right _ (List.mem_append_right _ ((List.mem_of_getElem? (i := 119) (by decide +kernel))))))) (by decide +kernel)
theorem m_737 : Cond.selects "SharedEchoes$History" ⟨"SharedEchoes$History", "stateAt", "(I)LSharedEchoes$State;"⟩ ⟨"SharedEchoes$History", "stateAt", "(I)LSharedEchoes$State;"⟩ ∈ LW := LW_in (List.mem_append_left _ (List.mem_map.mpr ⟨(⟨"SharedEchoes$History", "stateAt", "(I)LSharedEchoes$State;"⟩, 3), List.mem_of_getElem? (i := 0) (by decide +kernel), rfl⟩)) (by decide +kernel)
theorem m_738 : Cond.selects "SharedEchoes" ⟨"SharedEchoes", "wouldBeQuiet", "(III)Z"⟩ ⟨"SharedEchoes", "wouldBeQuiet", "(III)Z"⟩ ∈ LW := LW_in (List.mem_append_left _ (List.mem_map.mpr ⟨(⟨"SharedEchoes", "wouldBeQuiet", "(III)Z"⟩, 6), List.mem_of_getElem? (i := 1) (by decide +kernel), rfl⟩)) (by decide +kernel)
theorem m_739 : Cond.selects "SharedEchoes" ⟨"SharedEchoes", "tapsOn", "()I"⟩ ⟨"SharedEchoes", "tapsOn", "()I"⟩ ∈ LW := LW_in (List.mem_append_left _ (List.mem_map.mpr ⟨(⟨"SharedEchoes", "tapsOn", "()I"⟩, 6), List.mem_of_getElem? (i := 2) (by decide +kernel), rfl⟩)) (by decide +kernel)
theorem m_740 : Cond.selects "SharedEchoes" ⟨"SharedEchoes", "tapsLost", "()I"⟩ ⟨"SharedEchoes", "tapsLost", "()I"⟩ ∈ LW := LW_in (List.mem_append_left _ (List.mem_map.mpr ⟨(⟨"SharedEchoes", "tapsLost", "()I"⟩, 6), List.mem_of_getElem? (i := 3) (by decide +kernel), rfl⟩)) (by decide +kernel)
theorem m_741 : Cond.selects "SharedEchoes" ⟨"SharedEchoes", "findFault", "()V"⟩ ⟨"SharedEchoes", "findFault", "()V"⟩ ∈ LW := LW_in (List.mem_append_left _ (List.mem_map.mpr ⟨(⟨"SharedEchoes", "findFault", "()V"⟩, 6), List.mem_of_getElem? (i := 4) (by decide +kernel), rfl⟩)) (by decide +kernel)
theorem m_742 : Cond.selects "SharedEchoes$Order" ⟨"SharedEchoes$Order", "numbersOfKind", "()I"⟩ ⟨"SharedEchoes$Order", "numbersOfKind", "()I"⟩ ∈ LW := LW_in (List.mem_append_left _ (List.mem_map.mpr ⟨(⟨"SharedEchoes$Order", "numbersOfKind", "()I"⟩, 4), List.mem_of_getElem? (i := 5) (by decide +kernel), rfl⟩)) (by decide +kernel)
theorem m_743 : Cond.selects "SharedEchoes$Order" ⟨"SharedEchoes$Order", "readNumber", "(LSharedEchoes$Text;IZ)V"⟩ ⟨"SharedEchoes$Order", "readNumber", "(LSharedEchoes$Text;IZ)V"⟩ ∈ LW := LW_in (List.mem_append_left _ (List.mem_map.mpr ⟨(⟨"SharedEchoes$Order", "readNumber", "(LSharedEchoes$Text;IZ)V"⟩, 4), List.mem_of_getElem? (i := 6) (by decide +kernel), rfl⟩)) (by decide +kernel)
theorem m_744 : Cond.selects "SharedEchoes$Order" ⟨"SharedEchoes$Order", "readSign", "(LSharedEchoes$Text;I)V"⟩ ⟨"SharedEchoes$Order", "readSign", "(LSharedEchoes$Text;I)V"⟩ ∈ LW := LW_in (List.mem_append_left _ (List.mem_map.mpr ⟨(⟨"SharedEchoes$Order", "readSign", "(LSharedEchoes$Text;I)V"⟩, 4), List.mem_of_getElem? (i := 7) (by decide +kernel), rfl⟩)) (by decide +kernel)
theorem m_745 : Cond.selects "SharedEchoes" ⟨"SharedEchoes", "orderError", "(I)I"⟩ ⟨"SharedEchoes", "orderError", "(I)I"⟩ ∈ LW := LW_in (List.mem_append_left _ (List.mem_map.mpr ⟨(⟨"SharedEchoes", "orderError", "(I)I"⟩, 6), List.mem_of_getElem? (i := 8) (by decide +kernel), rfl⟩)) (by decide +kernel)
theorem m_746 : Cond.selects "SharedEchoes" ⟨"SharedEchoes", "wordsThatGo", "()I"⟩ ⟨"SharedEchoes", "wordsThatGo", "()I"⟩ ∈ LW := LW_in (List.mem_append_left _ (List.mem_map.mpr ⟨(⟨"SharedEchoes", "wordsThatGo", "()I"⟩, 6), List.mem_of_getElem? (i := 9) (by decide +kernel), rfl⟩)) (by decide +kernel)
theorem m_747 : Cond.selects "SharedEchoes" ⟨"SharedEchoes", "doOrder", "()V"⟩ ⟨"SharedEchoes", "doOrder", "()V"⟩ ∈ LW := LW_in (List.mem_append_left _ (List.mem_map.mpr ⟨(⟨"SharedEchoes", "doOrder", "()V"⟩, 6), List.mem_of_getElem? (i := 10) (by decide +kernel), rfl⟩)) (by decide +kernel)
theorem m_748 : Cond.selects "SharedEchoesModel" ⟨"SharedEchoesModel", "keeps", "()V"⟩ ⟨"SharedEchoesModel", "keeps", "()V"⟩ ∈ LW := LW_in (List.mem_append_left _ (List.mem_map.mpr ⟨(⟨"SharedEchoesModel", "keeps", "()V"⟩, 9), List.mem_of_getElem? (i := 11) (by decide +kernel), rfl⟩)) (by decide +kernel)
theorem m_749 : Cond.selects "SharedEchoesModel" ⟨"SharedEchoesModel", "copies", "(II)V"⟩ ⟨"SharedEchoesModel", "copies", "(II)V"⟩ ∈ LW := LW_in (List.mem_append_left _ (List.mem_map.mpr ⟨(⟨"SharedEchoesModel", "copies", "(II)V"⟩, 9), List.mem_of_getElem? (i := 12) (by decide +kernel), rfl⟩)) (by decide +kernel)
theorem m_750 : Cond.selects "SharedEchoesModel" ⟨"SharedEchoesModel", "doSample", "(I)I"⟩ ⟨"SharedEchoesModel", "doSample", "(I)I"⟩ ∈ LW := LW_in (List.mem_append_left _ (List.mem_map.mpr ⟨(⟨"SharedEchoesModel", "doSample", "(I)I"⟩, 9), List.mem_of_getElem? (i := 13) (by decide +kernel), rfl⟩)) (by decide +kernel)
theorem m_751 : Cond.selects "SharedEchoesModel" ⟨"SharedEchoesModel", "goes", "(II)I"⟩ ⟨"SharedEchoesModel", "goes", "(II)I"⟩ ∈ LW := LW_in (List.mem_append_left _ (List.mem_map.mpr ⟨(⟨"SharedEchoesModel", "goes", "(II)I"⟩, 9), List.mem_of_getElem? (i := 14) (by decide +kernel), rfl⟩)) (by decide +kernel)
theorem m_752 : Cond.selects "SharedEchoesModel" ⟨"SharedEchoesModel", "share", "(II)I"⟩ ⟨"SharedEchoesModel", "share", "(II)I"⟩ ∈ LW := LW_in (List.mem_append_left _ (List.mem_map.mpr ⟨(⟨"SharedEchoesModel", "share", "(II)I"⟩, 9), List.mem_of_getElem? (i := 15) (by decide +kernel), rfl⟩)) (by decide +kernel)
theorem m_753 : Cond.selects "SharedEchoesModel" ⟨"SharedEchoesModel", "reads", "(II)I"⟩ ⟨"SharedEchoesModel", "reads", "(II)I"⟩ ∈ LW := LW_in (List.mem_append_left _ (List.mem_map.mpr ⟨(⟨"SharedEchoesModel", "reads", "(II)I"⟩, 9), List.mem_of_getElem? (i := 16) (by decide +kernel), rfl⟩)) (by decide +kernel)
theorem m_754 : Cond.selects "SharedEchoesModel" ⟨"SharedEchoesModel", "isLost", "(II)Z"⟩ ⟨"SharedEchoesModel", "isLost", "(II)Z"⟩ ∈ LW := LW_in (List.mem_append_left _ (List.mem_map.mpr ⟨(⟨"SharedEchoesModel", "isLost", "(II)Z"⟩, 9), List.mem_of_getElem? (i := 17) (by decide +kernel), rfl⟩)) (by decide +kernel)
theorem m_755 : Cond.selects "SharedEchoesModel" ⟨"SharedEchoesModel", "length", "(I)I"⟩ ⟨"SharedEchoesModel", "length", "(I)I"⟩ ∈ LW := LW_in (List.mem_append_left _ (List.mem_map.mpr ⟨(⟨"SharedEchoesModel", "length", "(I)I"⟩, 9), List.mem_of_getElem? (i := 18) (by decide +kernel), rfl⟩)) (by decide +kernel)
theorem m_756 : Cond.selects "SharedEchoesModel" ⟨"SharedEchoesModel", "shaped", "(II)I"⟩ ⟨"SharedEchoesModel", "shaped", "(II)I"⟩ ∈ LW := LW_in (List.mem_append_left _ (List.mem_map.mpr ⟨(⟨"SharedEchoesModel", "shaped", "(II)I"⟩, 9), List.mem_of_getElem? (i := 19) (by decide +kernel), rfl⟩)) (by decide +kernel)
theorem m_757 : Cond.selects "SharedEchoesModel" ⟨"SharedEchoesModel", "acted", "(I)I"⟩ ⟨"SharedEchoesModel", "acted", "(I)I"⟩ ∈ LW := LW_in (List.mem_append_left _ (List.mem_map.mpr ⟨(⟨"SharedEchoesModel", "acted", "(I)I"⟩, 9), List.mem_of_getElem? (i := 20) (by decide +kernel), rfl⟩)) (by decide +kernel)
theorem m_758 : Cond.selects "SharedEchoesModel" ⟨"SharedEchoesModel", "doSilence", "(I)I"⟩ ⟨"SharedEchoesModel", "doSilence", "(I)I"⟩ ∈ LW := LW_in (List.mem_append_left _ (List.mem_map.mpr ⟨(⟨"SharedEchoesModel", "doSilence", "(I)I"⟩, 9), List.mem_of_getElem? (i := 21) (by decide +kernel), rfl⟩)) (by decide +kernel)
theorem m_759 : Cond.selects "SharedEchoesModel" ⟨"SharedEchoesModel", "doTap", "(III)I"⟩ ⟨"SharedEchoesModel", "doTap", "(III)I"⟩ ∈ LW := LW_in (List.mem_append_left _ (List.mem_map.mpr ⟨(⟨"SharedEchoesModel", "doTap", "(III)I"⟩, 9), List.mem_of_getElem? (i := 22) (by decide +kernel), rfl⟩)) (by decide +kernel)
theorem m_760 : Cond.selects "SharedEchoesModel" ⟨"SharedEchoesModel", "doFeedback", "(II)I"⟩ ⟨"SharedEchoesModel", "doFeedback", "(II)I"⟩ ∈ LW := LW_in (List.mem_append_left _ (List.mem_map.mpr ⟨(⟨"SharedEchoesModel", "doFeedback", "(II)I"⟩, 9), List.mem_of_getElem? (i := 23) (by decide +kernel), rfl⟩)) (by decide +kernel)
theorem m_761 : Cond.selects "SharedEchoesModel" ⟨"SharedEchoesModel", "doSteal", "(I)I"⟩ ⟨"SharedEchoesModel", "doSteal", "(I)I"⟩ ∈ LW := LW_in (List.mem_append_left _ (List.mem_map.mpr ⟨(⟨"SharedEchoesModel", "doSteal", "(I)I"⟩, 9), List.mem_of_getElem? (i := 24) (by decide +kernel), rfl⟩)) (by decide +kernel)
theorem m_762 : Cond.selects "SharedEchoesModel" ⟨"SharedEchoesModel", "doGive", "(I)I"⟩ ⟨"SharedEchoesModel", "doGive", "(I)I"⟩ ∈ LW := LW_in (List.mem_append_left _ (List.mem_map.mpr ⟨(⟨"SharedEchoesModel", "doGive", "(I)I"⟩, 9), List.mem_of_getElem? (i := 25) (by decide +kernel), rfl⟩)) (by decide +kernel)
theorem m_763 : Cond.selects "SharedEchoesModel" ⟨"SharedEchoesModel", "silenced", "()V"⟩ ⟨"SharedEchoesModel", "silenced", "()V"⟩ ∈ LW := LW_in (List.mem_append_left _ (List.mem_map.mpr ⟨(⟨"SharedEchoesModel", "silenced", "()V"⟩, 9), List.mem_of_getElem? (i := 26) (by decide +kernel), rfl⟩)) (by decide +kernel)
theorem m_764 : Cond.selects "SharedEchoesModel" ⟨"SharedEchoesModel", "greatestWord", "(I)I"⟩ ⟨"SharedEchoesModel", "greatestWord", "(I)I"⟩ ∈ LW := LW_in (List.mem_append_left _ (List.mem_map.mpr ⟨(⟨"SharedEchoesModel", "greatestWord", "(I)I"⟩, 9), List.mem_of_getElem? (i := 27) (by decide +kernel), rfl⟩)) (by decide +kernel)
theorem m_765 : Cond.selects "SharedEchoesModel" ⟨"SharedEchoesModel", "isQuiet", "(III)Z"⟩ ⟨"SharedEchoesModel", "isQuiet", "(III)Z"⟩ ∈ LW := LW_in (List.mem_append_left _ (List.mem_map.mpr ⟨(⟨"SharedEchoesModel", "isQuiet", "(III)Z"⟩, 9), List.mem_of_getElem? (i := 28) (by decide +kernel), rfl⟩)) (by decide +kernel)
theorem m_766 : Cond.selects "SharedEchoesModel" ⟨"SharedEchoesModel", "taps", "(Z)I"⟩ ⟨"SharedEchoesModel", "taps", "(Z)I"⟩ ∈ LW := LW_in (List.mem_append_left _ (List.mem_map.mpr ⟨(⟨"SharedEchoesModel", "taps", "(Z)I"⟩, 9), List.mem_of_getElem? (i := 29) (by decide +kernel), rfl⟩)) (by decide +kernel)
theorem m_767 : Cond.selects "SharedEchoesModel" ⟨"SharedEchoesModel", "words", "(Z)I"⟩ ⟨"SharedEchoesModel", "words", "(Z)I"⟩ ∈ LW := LW_in (List.mem_append_left _ (List.mem_map.mpr ⟨(⟨"SharedEchoesModel", "words", "(Z)I"⟩, 9), List.mem_of_getElem? (i := 30) (by decide +kernel), rfl⟩)) (by decide +kernel)
theorem m_768 : Cond.selects "SharedEchoesModel" ⟨"SharedEchoesModel", "goesOn", "()I"⟩ ⟨"SharedEchoesModel", "goesOn", "()I"⟩ ∈ LW := LW_in (List.mem_append_left _ (List.mem_map.mpr ⟨(⟨"SharedEchoesModel", "goesOn", "()I"⟩, 9), List.mem_of_getElem? (i := 31) (by decide +kernel), rfl⟩)) (by decide +kernel)
theorem m_769 : Cond.selects "SharedEchoesModel" ⟨"SharedEchoesModel", "sign", "()I"⟩ ⟨"SharedEchoesModel", "sign", "()I"⟩ ∈ LW := LW_in (List.mem_append_left _ (List.mem_map.mpr ⟨(⟨"SharedEchoesModel", "sign", "()I"⟩, 9), List.mem_of_getElem? (i := 32) (by decide +kernel), rfl⟩)) (by decide +kernel)
theorem m_770 : Cond.selects "SharedEchoesModel" ⟨"SharedEchoesModel", "order", "(I)Z"⟩ ⟨"SharedEchoesModel", "order", "(I)Z"⟩ ∈ LW := LW_in (List.mem_append_left _ (List.mem_map.mpr ⟨(⟨"SharedEchoesModel", "order", "(I)Z"⟩, 9), List.mem_of_getElem? (i := 33) (by decide +kernel), rfl⟩)) (by decide +kernel)
theorem m_771 : Cond.selects "SharedEchoesModel" ⟨"SharedEchoesModel", "number", "(IZ)Z"⟩ ⟨"SharedEchoesModel", "number", "(IZ)Z"⟩ ∈ LW := LW_in (List.mem_append_left _ (List.mem_map.mpr ⟨(⟨"SharedEchoesModel", "number", "(IZ)Z"⟩, 9), List.mem_of_getElem? (i := 34) (by decide +kernel), rfl⟩)) (by decide +kernel)
theorem m_772 : Cond.selects "SharedEchoesModel" ⟨"SharedEchoesModel", "takes", "(I)Z"⟩ ⟨"SharedEchoesModel", "takes", "(I)Z"⟩ ∈ LW := LW_in (List.mem_append_left _ (List.mem_map.mpr ⟨(⟨"SharedEchoesModel", "takes", "(I)Z"⟩, 9), List.mem_of_getElem? (i := 35) (by decide +kernel), rfl⟩)) (by decide +kernel)
theorem m_773 : Cond.selects "SharedEchoesModel" ⟨"SharedEchoesModel", "does", "(I)I"⟩ ⟨"SharedEchoesModel", "does", "(I)I"⟩ ∈ LW := LW_in (List.mem_append_left _ (List.mem_map.mpr ⟨(⟨"SharedEchoesModel", "does", "(I)I"⟩, 9), List.mem_of_getElem? (i := 36) (by decide +kernel), rfl⟩)) (by decide +kernel)
/-- words that a call does not keep by itself: they ride in the contracts -/
def NW : List Cond := [(Jvm.Cond.methodLinkNest "SharedEchoes$State" (11 : Nat) ({ cls := "SharedEchoes$Ring", name := "<init>", desc := "()V" } : Jvm.MethodName) "SharedEchoes"), (Jvm.Cond.methodLinkNest "SharedEchoes$State" (20 : Nat) ({ cls := "SharedEchoes$Outputs", name := "<init>", desc := "()V" } : Jvm.MethodName) "SharedEchoes"), (Jvm.Cond.methodLinkNest "SharedEchoes$State" (27 : Nat) ({ cls := "SharedEchoes$Meters", name := "<init>", desc := "()V" } : Jvm.MethodName) "SharedEchoes"), (Jvm.Cond.methodLinkNest "SharedEchoes" (28 : Nat) ({ cls := "SharedEchoes$Text", name := "<init>", desc := "()V" } : Jvm.MethodName) "SharedEchoes"), (Jvm.Cond.methodLinkNest "SharedEchoes" (35 : Nat) ({ cls := "SharedEchoes$Order", name := "<init>", desc := "()V" } : Jvm.MethodName) "SharedEchoes"), (Jvm.Cond.methodLinkNest "SharedEchoes" (42 : Nat) ({ cls := "SharedEchoes$Fault", name := "<init>", desc := "()V" } : Jvm.MethodName) "SharedEchoes"), (Jvm.Cond.methodLinkNest "SharedEchoes$State" (60 : Nat) ({ cls := "SharedEchoes", name := "thousandths", desc := "(II)I" } : Jvm.MethodName) "SharedEchoes"), (Jvm.Cond.methodLinkNest "SharedEchoes$State" (70 : Nat) ({ cls := "SharedEchoes", name := "shaped", desc := "(III)I" } : Jvm.MethodName) "SharedEchoes")]
theorem nwt_ao : (Jvm.Cond.arrayOver (Jvm.ClassFile.FieldType.object "SharedEchoes$State")) ∈ lw_tbl := List.mem_append_right _ (List.mem_append_left _ ((List.mem_of_getElem? (i := 130) (by decide +kernel))))
theorem nw_0 : (Jvm.Cond.methodLinkNest "SharedEchoes$State" (11 : Nat) ({ cls := "SharedEchoes$Ring", name := "<init>", desc := "()V" } : Jvm.MethodName) "SharedEchoes") ∈ NW := List.mem_of_getElem? (i := 0) rfl
theorem nwt_0 : (Jvm.Cond.methodLinkNest "SharedEchoes$State" (11 : Nat) ({ cls := "SharedEchoes$Ring", name := "<init>", desc := "()V" } : Jvm.MethodName) "SharedEchoes") ∈ lw_tbl := List.mem_append_right _ (List.mem_append_left _ ((List.mem_of_getElem? (i := 32) (by decide +kernel))))
theorem nw_1 : (Jvm.Cond.methodLinkNest "SharedEchoes$State" (20 : Nat) ({ cls := "SharedEchoes$Outputs", name := "<init>", desc := "()V" } : Jvm.MethodName) "SharedEchoes") ∈ NW := List.mem_of_getElem? (i := 1) rfl
theorem nwt_1 : (Jvm.Cond.methodLinkNest "SharedEchoes$State" (20 : Nat) ({ cls := "SharedEchoes$Outputs", name := "<init>", desc := "()V" } : Jvm.MethodName) "SharedEchoes") ∈ lw_tbl := List.mem_append_right _ (List.mem_append_left _ ((List.mem_of_getElem? (i := 51) (by decide +kernel))))
theorem nw_2 : (Jvm.Cond.methodLinkNest "SharedEchoes$State" (27 : Nat) ({ cls := "SharedEchoes$Meters", name := "<init>", desc := "()V" } : Jvm.MethodName) "SharedEchoes") ∈ NW := List.mem_of_getElem? (i := 2) rfl
theorem nwt_2 : (Jvm.Cond.methodLinkNest "SharedEchoes$State" (27 : Nat) ({ cls := "SharedEchoes$Meters", name := "<init>", desc := "()V" } : Jvm.MethodName) "SharedEchoes") ∈ lw_tbl := List.mem_append_right _ (List.mem_append_left _ ((List.mem_of_getElem? (i := 68) (by decide +kernel))))
theorem nw_3 : (Jvm.Cond.methodLinkNest "SharedEchoes" (28 : Nat) ({ cls := "SharedEchoes$Text", name := "<init>", desc := "()V" } : Jvm.MethodName) "SharedEchoes") ∈ NW := List.mem_of_getElem? (i := 3) rfl
theorem nwt_3 : (Jvm.Cond.methodLinkNest "SharedEchoes" (28 : Nat) ({ cls := "SharedEchoes$Text", name := "<init>", desc := "()V" } : Jvm.MethodName) "SharedEchoes") ∈ lw_tbl := List.mem_append_right _ (List.mem_append_left _ ((List.mem_of_getElem? (i := 145) (by decide +kernel))))
theorem nw_4 : (Jvm.Cond.methodLinkNest "SharedEchoes" (35 : Nat) ({ cls := "SharedEchoes$Order", name := "<init>", desc := "()V" } : Jvm.MethodName) "SharedEchoes") ∈ NW := List.mem_of_getElem? (i := 4) rfl
theorem nwt_4 : (Jvm.Cond.methodLinkNest "SharedEchoes" (35 : Nat) ({ cls := "SharedEchoes$Order", name := "<init>", desc := "()V" } : Jvm.MethodName) "SharedEchoes") ∈ lw_tbl := List.mem_append_right _ (List.mem_append_left _ ((List.mem_of_getElem? (i := 159) (by decide +kernel))))
theorem nw_5 : (Jvm.Cond.methodLinkNest "SharedEchoes" (42 : Nat) ({ cls := "SharedEchoes$Fault", name := "<init>", desc := "()V" } : Jvm.MethodName) "SharedEchoes") ∈ NW := List.mem_of_getElem? (i := 5) rfl
theorem nwt_5 : (Jvm.Cond.methodLinkNest "SharedEchoes" (42 : Nat) ({ cls := "SharedEchoes$Fault", name := "<init>", desc := "()V" } : Jvm.MethodName) "SharedEchoes") ∈ lw_tbl := List.mem_append_right _ (List.mem_append_left _ ((List.mem_of_getElem? (i := 181) (by decide +kernel))))
theorem nw_6 : (Jvm.Cond.methodLinkNest "SharedEchoes$State" (60 : Nat) ({ cls := "SharedEchoes", name := "thousandths", desc := "(II)I" } : Jvm.MethodName) "SharedEchoes") ∈ NW := List.mem_of_getElem? (i := 6) rfl
theorem nwt_6 : (Jvm.Cond.methodLinkNest "SharedEchoes$State" (60 : Nat) ({ cls := "SharedEchoes", name := "thousandths", desc := "(II)I" } : Jvm.MethodName) "SharedEchoes") ∈ lw_tbl := List.mem_append_right _ (List.mem_append_right _ (List.mem_append_left _ ((List.mem_of_getElem? (i := 46) (by decide +kernel)))))
theorem nw_7 : (Jvm.Cond.methodLinkNest "SharedEchoes$State" (70 : Nat) ({ cls := "SharedEchoes", name := "shaped", desc := "(III)I" } : Jvm.MethodName) "SharedEchoes") ∈ NW := List.mem_of_getElem? (i := 7) rfl
theorem nwt_7 : (Jvm.Cond.methodLinkNest "SharedEchoes$State" (70 : Nat) ({ cls := "SharedEchoes", name := "shaped", desc := "(III)I" } : Jvm.MethodName) "SharedEchoes") ∈ lw_tbl := List.mem_append_right _ (List.mem_append_right _ (List.mem_append_left _ ((List.mem_of_getElem? (i := 49) (by decide +kernel)))))
theorem NW_tbl : ∀ w ∈ NW, w ∈ lw_tbl := List.forall_mem_cons.mpr ⟨nwt_0, List.forall_mem_cons.mpr ⟨nwt_1, List.forall_mem_cons.mpr ⟨nwt_2, List.forall_mem_cons.mpr ⟨nwt_3, List.forall_mem_cons.mpr ⟨nwt_4, List.forall_mem_cons.mpr ⟨nwt_5, List.forall_mem_cons.mpr ⟨nwt_6, List.forall_mem_cons.mpr ⟨nwt_7, fun _ h => absurd h List.not_mem_nil⟩⟩⟩⟩⟩⟩⟩⟩
def XNw (U : State) : Prop := (∀ w ∈ NW, va_Nw w U) ∧ va_AO "SharedEchoes$State" U
theorem XNw.warm {s U : State} (hW : s.WarmedH U.vm) (h : XNw s) : XNw U := ⟨List.forall_mem_cons.mpr ⟨va_Nw.warmM hW (h.1 _ nw_0), List.forall_mem_cons.mpr ⟨va_Nw.warmM hW (h.1 _ nw_1), List.forall_mem_cons.mpr ⟨va_Nw.warmM hW (h.1 _ nw_2), List.forall_mem_cons.mpr ⟨va_Nw.warmM hW (h.1 _ nw_3), List.forall_mem_cons.mpr ⟨va_Nw.warmM hW (h.1 _ nw_4), List.forall_mem_cons.mpr ⟨va_Nw.warmM hW (h.1 _ nw_5), List.forall_mem_cons.mpr ⟨va_Nw.warmM hW (h.1 _ nw_6), List.forall_mem_cons.mpr ⟨va_Nw.warmM hW (h.1 _ nw_7), fun _ h => absurd h List.not_mem_nil⟩⟩⟩⟩⟩⟩⟩⟩, va_AO.moved hW.alike h.2⟩
theorem NW_on : ∀ w ∈ NW, w.onTables = true := List.forall_mem_cons.mpr ⟨rfl, List.forall_mem_cons.mpr ⟨rfl, List.forall_mem_cons.mpr ⟨rfl, List.forall_mem_cons.mpr ⟨rfl, List.forall_mem_cons.mpr ⟨rfl, List.forall_mem_cons.mpr ⟨rfl, List.forall_mem_cons.mpr ⟨rfl, List.forall_mem_cons.mpr ⟨rfl, fun _ h => absurd h List.not_mem_nil⟩⟩⟩⟩⟩⟩⟩⟩
theorem XNw.calling {U : State} {g : JFrame} {mk : MethodId} {a : Array Value} (h : XNw U) : XNw (U.calling g mk a) := ⟨fun w hw => va_Nw.same (NW_on w hw) (u := U) rfl (h.1 w hw), va_AO.moved (u := U) (U := U.calling g mk a) (Vm.Alike.refl U.vm) h.2⟩
end
section
/-! ===== the frame: the heap from the base on as a function of addresses; all that is fixed in a walk kept in one tuple ===== -/
abbrev GW : Type := Nat → va_E
abbrev XE : Type := va_G × (ClassId × ClassId × ClassId × ClassId) × Nat
def xI (E : XE) : ClassId := E.2.1.1
def xJ (E : XE) : ClassId := E.2.1.2.1
def xCh (E : XE) : ClassId := E.2.1.2.2.1
def xQ (E : XE) : ClassId := E.2.1.2.2.2
def xB (E : XE) : Nat := E.2.2
def xtys (E : XE) : List (ClassId × FieldType) := [(xI E, .int), (xJ E, .long), (xCh E, .char), (xQ E, .object "SharedEchoes$State")]
def gup (G : GW) (a : Nat) (e : va_E) : GW := fun q => if q = a then e else G q
def wl (E : XE) (N : Nat) (G : GW) : va_W := (List.range (N - xB E)).map fun i => (xB E + i, G (xB E + i))
theorem wl_len {E : XE} {N : Nat} {G : GW} : (wl E N G).length = N - xB E := by simp [wl]
theorem wl_get {E : XE} {N a : Nat} {G : GW} (h1 : xB E ≤ a) (h2 : a < N) : (wl E N G)[a - xB E]? = some (a, G a) := by
  have h : a - xB E < N - xB E := by omega
  unfold wl
  rw [List.getElem?_map, List.getElem?_range h]
  show some (xB E + (a - xB E), G (xB E + (a - xB E))) = _
  rw [Nat.add_sub_cancel' h1]
theorem wl_cases {E : XE} {N k : Nat} {G : GW} {q : Nat × va_E} (h : (wl E N G)[k]? = some q) : xB E + k < N ∧ q = (xB E + k, G (xB E + k)) := by
  have hl := (List.getElem?_eq_some_iff.mp h).1
  rw [wl_len] at hl
  unfold wl at h
  rw [List.getElem?_map, List.getElem?_range hl] at h
  exact ⟨by omega, (Option.some.inj h).symm⟩
theorem wl_set {E : XE} {N a : Nat} {G : GW} {e : va_E} (h1 : xB E ≤ a) (h2 : a < N) : (wl E N G).set (a - xB E) (a, e) = wl E N (gup G a e) := by
  apply List.ext_getElem?
  intro k
  by_cases hk : k = a - xB E
  · subst hk
    rw [List.getElem?_set_self (by rw [wl_len]; omega), wl_get h1 h2]
    simp [gup]
  · rw [List.getElem?_set_ne (Ne.symm hk)]
    by_cases hlt : k < N - xB E
    · have hne : xB E + k ≠ a := by omega
      unfold wl
      rw [List.getElem?_map, List.getElem?_map, List.getElem?_range hlt]
      simp [gup, hne]
    · rw [List.getElem?_eq_none (by rw [wl_len]; omega), List.getElem?_eq_none (by rw [wl_len]; omega)]
theorem wl_push {E : XE} {N : Nat} {G : GW} {e : va_E} (h : xB E ≤ N) : wl E N G ++ [(N, e)] = wl E (N + 1) (gup G N e) := by
  unfold wl
  rw [show N + 1 - xB E = (N - xB E) + 1 by omega, List.range_succ, List.map_append]
  congr 1
  · apply List.map_congr_left
    intro i hi
    have h1 := List.mem_range.mp hi
    have h2 : xB E + i ≠ N := by omega
    simp [gup, h2]
  · simp [gup, Nat.add_sub_cancel' h]
theorem wl_D (E : XE) (N : Nat) (G : GW) : va_D (fun q => xB E ≤ q) (wl E N G) := by
  refine ⟨fun i j p q hi hj h => ?_, fun k q hk => ?_⟩
  · obtain ⟨-, rfl⟩ := wl_cases hi
    obtain ⟨-, rfl⟩ := wl_cases hj
    have h2 : xB E + i = xB E + j := h
    omega
  · obtain ⟨-, rfl⟩ := wl_cases hk
    show xB E ≤ xB E + k
    omega
theorem x_nat_arraycopy : Cond.native arraycopyName ∈ LW := m_201
theorem x_stat_arraycopy : Cond.static arraycopyName ∈ LW := m_200
theorem x_ini_System : Cond.initialized "java/lang/System" ∈ LW := m_12
theorem x_ini_Math : Cond.initialized "java/lang/Math" ∈ LW := m_11
theorem x_ini_Float : Cond.initialized "java/lang/Float" ∈ LW := m_14
theorem x_stat_abs : Cond.static Lib.Math.abs.name ∈ LW := m_236
theorem x_code_abs : Cond.code Lib.Math.abs.name Lib.Math.abs.code 1 (some .int) ∈ LW := m_237
theorem x_stat_max : Cond.static Lib.Math.max.name ∈ LW := m_256
theorem x_code_max : Cond.code Lib.Math.max.name Lib.Math.max.code 2 (some .int) ∈ LW := m_257
theorem x_stat_min : Cond.static Lib.Math.min.name ∈ LW := m_239
theorem x_code_min : Cond.code Lib.Math.min.name Lib.Math.min.code 2 (some .int) ∈ LW := m_240
theorem x_nat_raw : Cond.native ⟨"java/lang/Float", "floatToRawIntBits", "(F)I"⟩ ∈ LW := m_662
theorem x_stat_raw : Cond.static ⟨"java/lang/Float", "floatToRawIntBits", "(F)I"⟩ ∈ LW := m_661
theorem x_inst_obj : Cond.instanceMethod Lib.objectInit ∈ LW := m_22
theorem x_code_obj : Cond.code Lib.objectInit ⟨#[0xb1]⟩ 1 none ∈ LW := m_23
theorem x_arr_int : Cond.arrayClass .int ∈ LW := m_43
theorem x_arr_long : Cond.arrayClass .long ∈ LW := m_545
theorem x_arr_char : Cond.arrayClass .char ∈ LW := m_546
abbrev XK : Type := Program × Launch × Env × Room × State × MethodId × Array Value × List Frame × Method × Code × (State → Prop)
def XW (E : XE) (K : XK) (nL N cells slots : Nat) (G : GW) (pc : Nat) (L : List (Nat × Value)) (st : List Value) : Prop :=
  ∀ (H : Heap) (locs : List Loc) (ls : Array Slot), K.2.2.2.2.1.heap.size + cells = N → va_P E.1 vwCl (wl E N G) H → va_S (fun q => xB E ≤ q) K.2.2.2.2.1.heap H locs → lv_has ls nL L →
    W K.1 K.2.1 K.2.2.1 K.2.2.2.1 K.2.2.2.2.1 K.2.2.2.2.2.1 K.2.2.2.2.2.2.1 K.2.2.2.2.2.2.2.1 K.2.2.2.2.2.2.2.2.1 K.2.2.2.2.2.2.2.2.2.1 H locs cells slots K.2.2.2.2.2.2.2.2.2.2 (F0 K.2.2.2.2.2.1 pc ls st)
/-- what holds in a walk of code cc of class own -/
def XC (E : XE) (K : XK) (cc : ByteArray) (nL : Nat) (own : String) (ret : Option FieldType) (fr lo mc ms : Nat) : Prop :=
  K.1.tables.exec = Jvm.exec ∧ K.2.2.2.2.2.2.2.2.2.1.code = cc ∧ K.2.2.2.2.2.2.2.2.2.1.maxLocals = nL ∧ K.2.2.2.2.1.vm.findClass own = some K.2.2.2.2.2.1.cls ∧ (∀ w ∈ LW, w.before K.2.2.2.2.2.2.1 K.2.2.2.2.1 = true) ∧ K.2.2.2.2.2.2.2.2.1.sig.returnType = ret ∧ K.2.2.2.2.2.2.2.2.1.locks = false ∧ va_K E.1 vwCl (xtys E) K.2.2.2.2.1 ∧ xB E ≤ K.2.2.2.2.1.heap.size ∧ XNw K.2.2.2.2.1 ∧ K.2.2.2.1 = { frames := fr, cells := mc, slots := ms, locals := lo }
def XQ (E : XE) (N : Nat) (res : Option Value) (G : GW) : Array Value → State → Outcome → State → Prop := fun _ st oc t => oc = .returned res ∧ t.heap.size = N ∧ va_P E.1 vwCl (wl E N G) t.heap ∧ va_F (fun q => xB E ≤ q) st t
def XZ (E : XE) (K : XK) (N mc ms : Nat) (res : Option Value) (G : GW) : Prop := K.2.2.2.2.2.2.2.2.2.2 = MQ K.2.2.2.2.2.2.2.1 (XQ E N res G) K.2.2.2.2.2.2.1 K.2.2.2.2.1 mc ms (fun q => xB E ≤ q)
def XPre (E : XE) (N : Nat) (G : GW) : State → Prop := fun U => xB E ≤ N ∧ U.heap.size = N ∧ XNw U ∧ va_P E.1 vwCl (wl E N G) U.heap ∧ va_K E.1 vwCl (xtys E) U
/-- a method's contract: called with As over the world G of N cells, it returns res over the world G' -/
def MF (E : XE) (y : MethodName) (cc : ByteArray) (maxL : Nat) (ret : Option FieldType) (fr lo mc ms : Nat) (As : List Value) (N : Nat) (G : GW) (res : Option Value) (G' : GW) : Prop :=
  ∀ l : Launch, Met l y (Cond.code y cc maxL ret :: LW) ({ frames := fr, cells := mc, slots := ms, locals := lo }) (va_Pc As (XPre E N G)) (XQ E (N + mc) res G') mc ms (fun q => xB E ≤ q)
theorem x_ofW {l : Launch} {y : MethodName} {ws ws' : List Cond} {rm : Room} {Pc : Array Value → State → Prop} {Qc : Array Value → State → Outcome → State → Prop} {mc ms : Nat} {free : Addr → Prop} {cc : ByteArray} {maxL : Nat} {ret : Option FieldType}
    (hy : plainFor y = true) (hw : ws = Cond.code y cc maxL ret :: ws')
    (body : ∀ p e s m args below meth c s₁, BodyLoose p l y (headSpec ws rm) cc maxL ret e s m args below meth c s₁ → c.maxLocals = maxL → Pc args s →
      W p l e (headSpec ws rm).room s m args below meth c s.heap [] 0 0 (MQ below Qc args s mc ms free) (entryFrame m args maxL)) : Met l y ws rm Pc Qc mc ms free := by
  refine MetFree.of_bodySF (code := cc) (maxLocals := maxL) (ret := ret) hy ?_ ?_
  · intro args s m h hn
    obtain ⟨meth, c, h1, h2, h3, h4, h5, h6, -, -⟩ := Cond.code_spec hn (atoms_spec (ws := ws) h _ (by rw [hw]; exact List.mem_cons_self))
    exact ⟨meth, c, h1, h2, h3, h4, h5, h6⟩
  · intro p e s m args below meth c s₁ B hml hP _
    have hh0 : s₁.heap = s.heap := by rw [B.state]; rfl
    obtain ⟨t, a1, o, b1, b2, b3⟩ := body p e s m args below meth c s₁ B hml hP s₁ hh0 (Stand.of_body B)
    exact ⟨t, o, a1, b1, b2, ⟨b3.1, b3.2⟩⟩
theorem MF.mk {E : XE} {y : MethodName} {cc : ByteArray} {maxL : Nat} {ret : Option FieldType} {fr lo mc ms : Nat} {As : List Value} {N : Nat} {G : GW} {res : Option Value} {G' : GW} (own : String) (ho : y.cls = own) (hy : plainFor y = true) (hn : Nat.ble (lg_sl As).length maxL = true)
    (h : ∀ K : XK, XC E K cc maxL own ret fr lo mc ms → XZ E K (N + mc) mc ms res G' → K.2.2.2.2.2.2.2.2.1.name = y.name → xB E ≤ N → XW E K maxL N 0 0 G 0 (lv_args 0 As) []) : MF E y cc maxL ret fr lo mc ms As N G res G' := by
  subst ho
  intro l
  refine x_ofW (cc := cc) (maxL := maxL) (ret := ret) hy rfl ?_
  intro p e s m args below meth c s₁ B hml hv
  obtain ⟨rfl, hBN, hsz, hnw, hP, hK⟩ := hv
  have hts : ∀ w ∈ (Cond.code y cc maxL ret :: LW), w.before _ s = true := atoms_spec (ws := Cond.code y cc maxL ret :: LW) B.pre
  have h1 := h (p, l, e, (headSpec (Cond.code y cc maxL ret :: LW) { frames := fr, cells := mc, slots := ms, locals := lo }).room, s, m, As.toArray, below, meth, c, MQ below (XQ E (N + mc) res G') As.toArray s mc ms (fun q => xB E ≤ q))
    ⟨B.exec, B.bytes, hml, findClass_of_methodNamed B.named, fun w hw => hts w (List.mem_cons_of_mem _ hw), B.returns, B.notSynchronized, hK, (show xB E ≤ s.heap.size by omega), hnw, rfl⟩ rfl (name_of_methodNamed B.named B.method).1 hBN
  rw [lg_entry_eq]
  exact h1 s.heap [] _ hsz hP va_S.rf (lv_entry As (Nat.le_of_ble_eq_true hn))

theorem x_iconst {E : XE} {K : XK} {nL N cells slots : Nat} {G : GW} {pc : Nat} {L : List (Nat × Value)} {st : List Value} {cc : ByteArray} {own : String} {ret : Option FieldType} {fr lo mc ms : Nat} (C : XC E K cc nL own ret fr lo mc ms) {n : Int} (v : Int32) (hd : decode cc pc = .ok (.iconst n, 1)) (hv : Int32.ofInt n = v) (k : XW E K nL N cells slots G (pc + 1) L (.int v :: st)) : XW E K nL N cells slots G pc L st := by
  obtain ⟨p, l, e, R, s, m, args, below, meth, c, Q⟩ := K
  obtain ⟨hx, hb, hml, hown, hts, hr, hlk, hK, hB, hNw, hR⟩ := C
  intro H locs ls h1 h2 h3 h4
  exact lv_iconst hx hb hd hv (k H locs ls h1 h2 h3 h4)
theorem x_bipush {E : XE} {K : XK} {nL N cells slots : Nat} {G : GW} {pc : Nat} {L : List (Nat × Value)} {st : List Value} {cc : ByteArray} {own : String} {ret : Option FieldType} {fr lo mc ms : Nat} (C : XC E K cc nL own ret fr lo mc ms) {n : Int} (v : Int32) (hd : decode cc pc = .ok (.bipush n, 2)) (hv : (Int8.ofInt n).toInt32 = v) (k : XW E K nL N cells slots G (pc + 2) L (.int v :: st)) : XW E K nL N cells slots G pc L st := by
  obtain ⟨p, l, e, R, s, m, args, below, meth, c, Q⟩ := K
  obtain ⟨hx, hb, hml, hown, hts, hr, hlk, hK, hB, hNw, hR⟩ := C
  intro H locs ls h1 h2 h3 h4
  exact lv_bipush hx hb hd hv (k H locs ls h1 h2 h3 h4)
theorem x_sipush {E : XE} {K : XK} {nL N cells slots : Nat} {G : GW} {pc : Nat} {L : List (Nat × Value)} {st : List Value} {cc : ByteArray} {own : String} {ret : Option FieldType} {fr lo mc ms : Nat} (C : XC E K cc nL own ret fr lo mc ms) {n : Int} (v : Int32) (hd : decode cc pc = .ok (.sipush n, 3)) (hv : (Int16.ofInt n).toInt32 = v) (k : XW E K nL N cells slots G (pc + 3) L (.int v :: st)) : XW E K nL N cells slots G pc L st := by
  obtain ⟨p, l, e, R, s, m, args, below, meth, c, Q⟩ := K
  obtain ⟨hx, hb, hml, hown, hts, hr, hlk, hK, hB, hNw, hR⟩ := C
  intro H locs ls h1 h2 h3 h4
  exact lv_sipush hx hb hd hv (k H locs ls h1 h2 h3 h4)
theorem x_lconst {E : XE} {K : XK} {nL N cells slots : Nat} {G : GW} {pc : Nat} {L : List (Nat × Value)} {st : List Value} {cc : ByteArray} {own : String} {ret : Option FieldType} {fr lo mc ms : Nat} (C : XC E K cc nL own ret fr lo mc ms) {n : Fin 2} (v : Int64) (hd : decode cc pc = .ok (.lconst n, 1)) (hv : Int64.ofNat (n : Nat) = v) (k : XW E K nL N cells slots G (pc + 1) L (.long v :: st)) : XW E K nL N cells slots G pc L st := by
  obtain ⟨p, l, e, R, s, m, args, below, meth, c, Q⟩ := K
  obtain ⟨hx, hb, hml, hown, hts, hr, hlk, hK, hB, hNw, hR⟩ := C
  intro H locs ls h1 h2 h3 h4
  exact lv_lconst hx hb hd hv (k H locs ls h1 h2 h3 h4)
theorem x_iload_n {E : XE} {K : XK} {nL N cells slots : Nat} {G : GW} {pc : Nat} {L : List (Nat × Value)} {st : List Value} {cc : ByteArray} {own : String} {ret : Option FieldType} {fr lo mc ms : Nat} (C : XC E K cc nL own ret fr lo mc ms) {kf : Fin 4} {x : Int32} (hd : decode cc pc = .ok (.iload_n kf, 1)) (j : Nat) (hl : L[j]? = some ((kf : Nat), .int x)) (k : XW E K nL N cells slots G (pc + 1) L (.int x :: st)) : XW E K nL N cells slots G pc L st := by
  obtain ⟨p, l, e, R, s, m, args, below, meth, c, Q⟩ := K
  obtain ⟨hx, hb, hml, hown, hts, hr, hlk, hK, hB, hNw, hR⟩ := C
  intro H locs ls h1 h2 h3 h4
  exact lv_iload_n hx hb hd rfl (lv_at h4 j hl) (k H locs ls h1 h2 h3 h4)
theorem x_iload {E : XE} {K : XK} {nL N cells slots : Nat} {G : GW} {pc : Nat} {L : List (Nat × Value)} {st : List Value} {cc : ByteArray} {own : String} {ret : Option FieldType} {fr lo mc ms : Nat} (C : XC E K cc nL own ret fr lo mc ms) {i : Nat} {x : Int32} (hd : decode cc pc = .ok (.iload i, 2)) (j : Nat) (hl : L[j]? = some (i, .int x)) (k : XW E K nL N cells slots G (pc + 2) L (.int x :: st)) : XW E K nL N cells slots G pc L st := by
  obtain ⟨p, l, e, R, s, m, args, below, meth, c, Q⟩ := K
  obtain ⟨hx, hb, hml, hown, hts, hr, hlk, hK, hB, hNw, hR⟩ := C
  intro H locs ls h1 h2 h3 h4
  exact lv_iload hx hb hd (lv_at h4 j hl) (k H locs ls h1 h2 h3 h4)
theorem x_fload_n {E : XE} {K : XK} {nL N cells slots : Nat} {G : GW} {pc : Nat} {L : List (Nat × Value)} {st : List Value} {cc : ByteArray} {own : String} {ret : Option FieldType} {fr lo mc ms : Nat} (C : XC E K cc nL own ret fr lo mc ms) {kf : Fin 4} {x : UInt32} (hd : decode cc pc = .ok (.fload_n kf, 1)) (j : Nat) (hl : L[j]? = some ((kf : Nat), .float x)) (k : XW E K nL N cells slots G (pc + 1) L (.float x :: st)) : XW E K nL N cells slots G pc L st := by
  obtain ⟨p, l, e, R, s, m, args, below, meth, c, Q⟩ := K
  obtain ⟨hx, hb, hml, hown, hts, hr, hlk, hK, hB, hNw, hR⟩ := C
  intro H locs ls h1 h2 h3 h4
  exact lv_fload_n hx hb hd rfl (lv_at h4 j hl) (k H locs ls h1 h2 h3 h4)
theorem x_aload_n {E : XE} {K : XK} {nL N cells slots : Nat} {G : GW} {pc : Nat} {L : List (Nat × Value)} {st : List Value} {cc : ByteArray} {own : String} {ret : Option FieldType} {fr lo mc ms : Nat} (C : XC E K cc nL own ret fr lo mc ms) {kf : Fin 4} {x : Nat} (hd : decode cc pc = .ok (.aload_n kf, 1)) (j : Nat) (hl : L[j]? = some ((kf : Nat), .ref x)) (k : XW E K nL N cells slots G (pc + 1) L (.ref x :: st)) : XW E K nL N cells slots G pc L st := by
  obtain ⟨p, l, e, R, s, m, args, below, meth, c, Q⟩ := K
  obtain ⟨hx, hb, hml, hown, hts, hr, hlk, hK, hB, hNw, hR⟩ := C
  intro H locs ls h1 h2 h3 h4
  exact lv_aload_n hx hb hd rfl (lv_at h4 j hl) (k H locs ls h1 h2 h3 h4)
theorem x_aload {E : XE} {K : XK} {nL N cells slots : Nat} {G : GW} {pc : Nat} {L : List (Nat × Value)} {st : List Value} {cc : ByteArray} {own : String} {ret : Option FieldType} {fr lo mc ms : Nat} (C : XC E K cc nL own ret fr lo mc ms) {i : Nat} {x : Nat} (hd : decode cc pc = .ok (.aload i, 2)) (j : Nat) (hl : L[j]? = some (i, .ref x)) (k : XW E K nL N cells slots G (pc + 2) L (.ref x :: st)) : XW E K nL N cells slots G pc L st := by
  obtain ⟨p, l, e, R, s, m, args, below, meth, c, Q⟩ := K
  obtain ⟨hx, hb, hml, hown, hts, hr, hlk, hK, hB, hNw, hR⟩ := C
  intro H locs ls h1 h2 h3 h4
  exact lv_aload hx hb hd (lv_at h4 j hl) (k H locs ls h1 h2 h3 h4)
theorem x_iadd {E : XE} {K : XK} {nL N cells slots : Nat} {G : GW} {pc : Nat} {L : List (Nat × Value)} {st : List Value} {cc : ByteArray} {own : String} {ret : Option FieldType} {fr lo mc ms : Nat} (C : XC E K cc nL own ret fr lo mc ms) {x y : Int32} (hd : decode cc pc = .ok (.iadd, 1)) (k : XW E K nL N cells slots G (pc + 1) L (.int (x + y) :: st)) : XW E K nL N cells slots G pc L (.int y :: .int x :: st) := by
  obtain ⟨p, l, e, R, s, m, args, below, meth, c, Q⟩ := K
  obtain ⟨hx, hb, hml, hown, hts, hr, hlk, hK, hB, hNw, hR⟩ := C
  intro H locs ls h1 h2 h3 h4
  exact lv_iadd hx hb hd (k H locs ls h1 h2 h3 h4)
theorem x_isub {E : XE} {K : XK} {nL N cells slots : Nat} {G : GW} {pc : Nat} {L : List (Nat × Value)} {st : List Value} {cc : ByteArray} {own : String} {ret : Option FieldType} {fr lo mc ms : Nat} (C : XC E K cc nL own ret fr lo mc ms) {x y : Int32} (hd : decode cc pc = .ok (.isub, 1)) (k : XW E K nL N cells slots G (pc + 1) L (.int (x - y) :: st)) : XW E K nL N cells slots G pc L (.int y :: .int x :: st) := by
  obtain ⟨p, l, e, R, s, m, args, below, meth, c, Q⟩ := K
  obtain ⟨hx, hb, hml, hown, hts, hr, hlk, hK, hB, hNw, hR⟩ := C
  intro H locs ls h1 h2 h3 h4
  exact lv_isub hx hb hd (k H locs ls h1 h2 h3 h4)
theorem x_imul {E : XE} {K : XK} {nL N cells slots : Nat} {G : GW} {pc : Nat} {L : List (Nat × Value)} {st : List Value} {cc : ByteArray} {own : String} {ret : Option FieldType} {fr lo mc ms : Nat} (C : XC E K cc nL own ret fr lo mc ms) {x y : Int32} (hd : decode cc pc = .ok (.imul, 1)) (k : XW E K nL N cells slots G (pc + 1) L (.int (x * y) :: st)) : XW E K nL N cells slots G pc L (.int y :: .int x :: st) := by
  obtain ⟨p, l, e, R, s, m, args, below, meth, c, Q⟩ := K
  obtain ⟨hx, hb, hml, hown, hts, hr, hlk, hK, hB, hNw, hR⟩ := C
  intro H locs ls h1 h2 h3 h4
  exact lv_imul hx hb hd (k H locs ls h1 h2 h3 h4)
theorem x_iand {E : XE} {K : XK} {nL N cells slots : Nat} {G : GW} {pc : Nat} {L : List (Nat × Value)} {st : List Value} {cc : ByteArray} {own : String} {ret : Option FieldType} {fr lo mc ms : Nat} (C : XC E K cc nL own ret fr lo mc ms) {x y : Int32} (hd : decode cc pc = .ok (.iand, 1)) (k : XW E K nL N cells slots G (pc + 1) L (.int (x &&& y) :: st)) : XW E K nL N cells slots G pc L (.int y :: .int x :: st) := by
  obtain ⟨p, l, e, R, s, m, args, below, meth, c, Q⟩ := K
  obtain ⟨hx, hb, hml, hown, hts, hr, hlk, hK, hB, hNw, hR⟩ := C
  intro H locs ls h1 h2 h3 h4
  exact lv_iand hx hb hd (k H locs ls h1 h2 h3 h4)
theorem x_ixor {E : XE} {K : XK} {nL N cells slots : Nat} {G : GW} {pc : Nat} {L : List (Nat × Value)} {st : List Value} {cc : ByteArray} {own : String} {ret : Option FieldType} {fr lo mc ms : Nat} (C : XC E K cc nL own ret fr lo mc ms) {x y : Int32} (hd : decode cc pc = .ok (.ixor, 1)) (k : XW E K nL N cells slots G (pc + 1) L (.int (x ^^^ y) :: st)) : XW E K nL N cells slots G pc L (.int y :: .int x :: st) := by
  obtain ⟨p, l, e, R, s, m, args, below, meth, c, Q⟩ := K
  obtain ⟨hx, hb, hml, hown, hts, hr, hlk, hK, hB, hNw, hR⟩ := C
  intro H locs ls h1 h2 h3 h4
  exact lv_ixor hx hb hd (k H locs ls h1 h2 h3 h4)
theorem x_idiv {E : XE} {K : XK} {nL N cells slots : Nat} {G : GW} {pc : Nat} {L : List (Nat × Value)} {st : List Value} {cc : ByteArray} {own : String} {ret : Option FieldType} {fr lo mc ms : Nat} (C : XC E K cc nL own ret fr lo mc ms) {x y : Int32} (hd : decode cc pc = .ok (.idiv, 1)) (hne : ¬ y = 0) (k : XW E K nL N cells slots G (pc + 1) L (.int (x / y) :: st)) : XW E K nL N cells slots G pc L (.int y :: .int x :: st) := by
  obtain ⟨p, l, e, R, s, m, args, below, meth, c, Q⟩ := K
  obtain ⟨hx, hb, hml, hown, hts, hr, hlk, hK, hB, hNw, hR⟩ := C
  intro H locs ls h1 h2 h3 h4
  exact lv_idiv hx hb hd hne (k H locs ls h1 h2 h3 h4)
theorem x_irem {E : XE} {K : XK} {nL N cells slots : Nat} {G : GW} {pc : Nat} {L : List (Nat × Value)} {st : List Value} {cc : ByteArray} {own : String} {ret : Option FieldType} {fr lo mc ms : Nat} (C : XC E K cc nL own ret fr lo mc ms) {x y : Int32} (hd : decode cc pc = .ok (.irem, 1)) (hne : ¬ y = 0) (k : XW E K nL N cells slots G (pc + 1) L (.int (x - x / y * y) :: st)) : XW E K nL N cells slots G pc L (.int y :: .int x :: st) := by
  obtain ⟨p, l, e, R, s, m, args, below, meth, c, Q⟩ := K
  obtain ⟨hx, hb, hml, hown, hts, hr, hlk, hK, hB, hNw, hR⟩ := C
  intro H locs ls h1 h2 h3 h4
  exact lv_irem hx hb hd hne (k H locs ls h1 h2 h3 h4)
theorem x_ineg {E : XE} {K : XK} {nL N cells slots : Nat} {G : GW} {pc : Nat} {L : List (Nat × Value)} {st : List Value} {cc : ByteArray} {own : String} {ret : Option FieldType} {fr lo mc ms : Nat} (C : XC E K cc nL own ret fr lo mc ms) {x : Int32} (hd : decode cc pc = .ok (.ineg, 1)) (k : XW E K nL N cells slots G (pc + 1) L (.int (-x) :: st)) : XW E K nL N cells slots G pc L (.int x :: st) := by
  obtain ⟨p, l, e, R, s, m, args, below, meth, c, Q⟩ := K
  obtain ⟨hx, hb, hml, hown, hts, hr, hlk, hK, hB, hNw, hR⟩ := C
  intro H locs ls h1 h2 h3 h4
  exact lv_ineg hx hb hd (k H locs ls h1 h2 h3 h4)
theorem x_ladd {E : XE} {K : XK} {nL N cells slots : Nat} {G : GW} {pc : Nat} {L : List (Nat × Value)} {st : List Value} {cc : ByteArray} {own : String} {ret : Option FieldType} {fr lo mc ms : Nat} (C : XC E K cc nL own ret fr lo mc ms) {x y : Int64} (hd : decode cc pc = .ok (.ladd, 1)) (k : XW E K nL N cells slots G (pc + 1) L (.long (x + y) :: st)) : XW E K nL N cells slots G pc L (.long y :: .long x :: st) := by
  obtain ⟨p, l, e, R, s, m, args, below, meth, c, Q⟩ := K
  obtain ⟨hx, hb, hml, hown, hts, hr, hlk, hK, hB, hNw, hR⟩ := C
  intro H locs ls h1 h2 h3 h4
  exact lv_ladd hx hb hd (k H locs ls h1 h2 h3 h4)
theorem x_i2l {E : XE} {K : XK} {nL N cells slots : Nat} {G : GW} {pc : Nat} {L : List (Nat × Value)} {st : List Value} {cc : ByteArray} {own : String} {ret : Option FieldType} {fr lo mc ms : Nat} (C : XC E K cc nL own ret fr lo mc ms) {x : Int32} (hd : decode cc pc = .ok (.i2l, 1)) (k : XW E K nL N cells slots G (pc + 1) L (.long x.toInt64 :: st)) : XW E K nL N cells slots G pc L (.int x :: st) := by
  obtain ⟨p, l, e, R, s, m, args, below, meth, c, Q⟩ := K
  obtain ⟨hx, hb, hml, hown, hts, hr, hlk, hK, hB, hNw, hR⟩ := C
  intro H locs ls h1 h2 h3 h4
  exact lv_i2l hx hb hd rfl (k H locs ls h1 h2 h3 h4)
theorem x_i2c {E : XE} {K : XK} {nL N cells slots : Nat} {G : GW} {pc : Nat} {L : List (Nat × Value)} {st : List Value} {cc : ByteArray} {own : String} {ret : Option FieldType} {fr lo mc ms : Nat} (C : XC E K cc nL own ret fr lo mc ms) {x : Int32} (hd : decode cc pc = .ok (.i2c, 1)) (k : XW E K nL N cells slots G (pc + 1) L (.int (x.toUInt32 % 65536).toInt32 :: st)) : XW E K nL N cells slots G pc L (.int x :: st) := by
  obtain ⟨p, l, e, R, s, m, args, below, meth, c, Q⟩ := K
  obtain ⟨hx, hb, hml, hown, hts, hr, hlk, hK, hB, hNw, hR⟩ := C
  intro H locs ls h1 h2 h3 h4
  exact lv_i2c hx hb hd rfl (k H locs ls h1 h2 h3 h4)
theorem x_dup {E : XE} {K : XK} {nL N cells slots : Nat} {G : GW} {pc : Nat} {L : List (Nat × Value)} {st : List Value} {cc : ByteArray} {own : String} {ret : Option FieldType} {fr lo mc ms : Nat} (C : XC E K cc nL own ret fr lo mc ms) {v : Value} (hd : decode cc pc = .ok (.dup, 1)) (hv : v.category = 1) (k : XW E K nL N cells slots G (pc + 1) L (v :: v :: st)) : XW E K nL N cells slots G pc L (v :: st) := by
  obtain ⟨p, l, e, R, s, m, args, below, meth, c, Q⟩ := K
  obtain ⟨hx, hb, hml, hown, hts, hr, hlk, hK, hB, hNw, hR⟩ := C
  intro H locs ls h1 h2 h3 h4
  exact lv_dup hx hb hd hv (k H locs ls h1 h2 h3 h4)
theorem x_pop {E : XE} {K : XK} {nL N cells slots : Nat} {G : GW} {pc : Nat} {L : List (Nat × Value)} {st : List Value} {cc : ByteArray} {own : String} {ret : Option FieldType} {fr lo mc ms : Nat} (C : XC E K cc nL own ret fr lo mc ms) {v : Value} (hd : decode cc pc = .ok (.pop, 1)) (hv : v.category = 1) (k : XW E K nL N cells slots G (pc + 1) L st) : XW E K nL N cells slots G pc L (v :: st) := by
  obtain ⟨p, l, e, R, s, m, args, below, meth, c, Q⟩ := K
  obtain ⟨hx, hb, hml, hown, hts, hr, hlk, hK, hB, hNw, hR⟩ := C
  intro H locs ls h1 h2 h3 h4
  exact lv_pop hx hb hd hv (k H locs ls h1 h2 h3 h4)
theorem x_dup2_11 {E : XE} {K : XK} {nL N cells slots : Nat} {G : GW} {pc : Nat} {L : List (Nat × Value)} {st : List Value} {cc : ByteArray} {own : String} {ret : Option FieldType} {fr lo mc ms : Nat} (C : XC E K cc nL own ret fr lo mc ms) {v w : Value} (hd : decode cc pc = .ok (.dup2, 1)) (hv : v.category = 1) (hw : w.category = 1) (k : XW E K nL N cells slots G (pc + 1) L (v :: w :: v :: w :: st)) : XW E K nL N cells slots G pc L (v :: w :: st) := by
  obtain ⟨p, l, e, R, s, m, args, below, meth, c, Q⟩ := K
  obtain ⟨hx, hb, hml, hown, hts, hr, hlk, hK, hB, hNw, hR⟩ := C
  intro H locs ls h1 h2 h3 h4
  exact lv_dup2_11 hx hb hd hv hw (k H locs ls h1 h2 h3 h4)
theorem x_istore_n {E : XE} {K : XK} {nL N cells slots : Nat} {G : GW} {pc : Nat} {L : List (Nat × Value)} {st : List Value} {cc : ByteArray} {own : String} {ret : Option FieldType} {fr lo mc ms : Nat} (C : XC E K cc nL own ret fr lo mc ms) {kf : Fin 4} {x : Int32} {L' : List (Nat × Value)} (hd : decode cc pc = .ok (.istore_n kf, 1)) (hn : Nat.blt (kf : Nat) nL = true) (hl : ((kf : Nat), Value.int x) :: L.filter (fun q => !(q.1 == (kf : Nat)) && !(q.1 + 1 == (kf : Nat) && q.2.category == 2)) = L') (k : XW E K nL N cells slots G (pc + 1) L' st) : XW E K nL N cells slots G pc L (.int x :: st) := by
  obtain ⟨p, l, e, R, s, m, args, below, meth, c, Q⟩ := K
  obtain ⟨hx, hb, hml, hown, hts, hr, hlk, hK, hB, hNw, hR⟩ := C
  intro H locs ls h1 h2 h3 h4
  exact lv_istore_n hx hb hd rfl h4 (Nat.le_of_ble_eq_true hn) hl (fun ls h => k H locs ls h1 h2 h3 h)
theorem x_istore {E : XE} {K : XK} {nL N cells slots : Nat} {G : GW} {pc : Nat} {L : List (Nat × Value)} {st : List Value} {cc : ByteArray} {own : String} {ret : Option FieldType} {fr lo mc ms : Nat} (C : XC E K cc nL own ret fr lo mc ms) {i : Nat} {x : Int32} {L' : List (Nat × Value)} (hd : decode cc pc = .ok (.istore i, 2)) (hn : Nat.blt i nL = true) (hl : (i, Value.int x) :: L.filter (fun q => !(q.1 == i) && !(q.1 + 1 == i && q.2.category == 2)) = L') (k : XW E K nL N cells slots G (pc + 2) L' st) : XW E K nL N cells slots G pc L (.int x :: st) := by
  obtain ⟨p, l, e, R, s, m, args, below, meth, c, Q⟩ := K
  obtain ⟨hx, hb, hml, hown, hts, hr, hlk, hK, hB, hNw, hR⟩ := C
  intro H locs ls h1 h2 h3 h4
  exact lv_istore hx hb hd h4 (Nat.le_of_ble_eq_true hn) hl (fun ls h => k H locs ls h1 h2 h3 h)
theorem x_fstore_n {E : XE} {K : XK} {nL N cells slots : Nat} {G : GW} {pc : Nat} {L : List (Nat × Value)} {st : List Value} {cc : ByteArray} {own : String} {ret : Option FieldType} {fr lo mc ms : Nat} (C : XC E K cc nL own ret fr lo mc ms) {kf : Fin 4} {x : UInt32} {L' : List (Nat × Value)} (hd : decode cc pc = .ok (.fstore_n kf, 1)) (hn : Nat.blt (kf : Nat) nL = true) (hl : ((kf : Nat), Value.float x) :: L.filter (fun q => !(q.1 == (kf : Nat)) && !(q.1 + 1 == (kf : Nat) && q.2.category == 2)) = L') (k : XW E K nL N cells slots G (pc + 1) L' st) : XW E K nL N cells slots G pc L (.float x :: st) := by
  obtain ⟨p, l, e, R, s, m, args, below, meth, c, Q⟩ := K
  obtain ⟨hx, hb, hml, hown, hts, hr, hlk, hK, hB, hNw, hR⟩ := C
  intro H locs ls h1 h2 h3 h4
  exact lv_fstore_n hx hb hd rfl h4 (Nat.le_of_ble_eq_true hn) hl (fun ls h => k H locs ls h1 h2 h3 h)
theorem x_astore_n {E : XE} {K : XK} {nL N cells slots : Nat} {G : GW} {pc : Nat} {L : List (Nat × Value)} {st : List Value} {cc : ByteArray} {own : String} {ret : Option FieldType} {fr lo mc ms : Nat} (C : XC E K cc nL own ret fr lo mc ms) {kf : Fin 4} {x : Nat} {L' : List (Nat × Value)} (hd : decode cc pc = .ok (.astore_n kf, 1)) (hn : Nat.blt (kf : Nat) nL = true) (hl : ((kf : Nat), Value.ref x) :: L.filter (fun q => !(q.1 == (kf : Nat)) && !(q.1 + 1 == (kf : Nat) && q.2.category == 2)) = L') (k : XW E K nL N cells slots G (pc + 1) L' st) : XW E K nL N cells slots G pc L (.ref x :: st) := by
  obtain ⟨p, l, e, R, s, m, args, below, meth, c, Q⟩ := K
  obtain ⟨hx, hb, hml, hown, hts, hr, hlk, hK, hB, hNw, hR⟩ := C
  intro H locs ls h1 h2 h3 h4
  exact lv_astore_n hx hb hd rfl h4 (Nat.le_of_ble_eq_true hn) hl (fun ls h => k H locs ls h1 h2 h3 h)
theorem x_iinc {E : XE} {K : XK} {nL N cells slots : Nat} {G : GW} {pc : Nat} {L : List (Nat × Value)} {st : List Value} {cc : ByteArray} {own : String} {ret : Option FieldType} {fr lo mc ms : Nat} (C : XC E K cc nL own ret fr lo mc ms) {i : Nat} {n : Int} {x : Int32} {L' : List (Nat × Value)} (v : Int32) (hd : decode cc pc = .ok (.iinc i n, 3)) (j : Nat) (hj : L[j]? = some (i, .int x)) (hv : x + Int32.ofInt n = v) (hn : Nat.blt i nL = true) (hl : (i, Value.int v) :: L.filter (fun q => !(q.1 == i) && !(q.1 + 1 == i && q.2.category == 2)) = L') (k : XW E K nL N cells slots G (pc + 3) L' st) : XW E K nL N cells slots G pc L st := by
  obtain ⟨p, l, e, R, s, m, args, below, meth, c, Q⟩ := K
  obtain ⟨hx, hb, hml, hown, hts, hr, hlk, hK, hB, hNw, hR⟩ := C
  intro H locs ls h1 h2 h3 h4
  exact lv_iinc hx hb hd h4 hj hv (Nat.le_of_ble_eq_true hn) hl (fun ls h => k H locs ls h1 h2 h3 h)
theorem x_perm {E : XE} {K : XK} {nL N cells slots : Nat} {G : GW} {pc : Nat} {L L' : List (Nat × Value)} {st : List Value} (ks : List Nat) (hp : lv_pick L ks = L') (k : XW E K nL N cells slots G pc L' st) : XW E K nL N cells slots G pc L st := fun H locs ls h1 h2 h3 h4 => k H locs ls h1 h2 h3 (lv_sub h4 ks hp)
theorem x_to {E : XE} {K : XK} {nL N cells slots : Nat} {G G' : GW} {pc : Nat} {L L' : List (Nat × Value)} {st st' : List Value} (hL : L = L') (hG : G = G') (hs : st = st') (k : XW E K nL N cells slots G' pc L' st') : XW E K nL N cells slots G pc L st := by
  subst hL; subst hG; subst hs; exact k
theorem x_G {E : XE} {K : XK} {nL N cells slots : Nat} {G G' : GW} {pc : Nat} {L : List (Nat × Value)} {st : List Value} (hG : G = G') (k : XW E K nL N cells slots G' pc L st) : XW E K nL N cells slots G pc L st := by
  subst hG; exact k
theorem x_v {E : XE} {K : XK} {nL N cells slots : Nat} {G : GW} {pc : Nat} {L : List (Nat × Value)} {st : List Value} {v w : Value} (hv : v = w) (k : XW E K nL N cells slots G pc L (w :: st)) : XW E K nL N cells slots G pc L (v :: st) := by
  subst hv; exact k
theorem x_topi {E : XE} {K : XK} {nL N cells slots : Nat} {G : GW} {pc : Nat} {L : List (Nat × Value)} {st : List Value} {x : Int32} (k : ∀ z : Int32, z = x → XW E K nL N cells slots G pc L (.int z :: st)) : XW E K nL N cells slots G pc L (.int x :: st) := k x rfl
theorem x_if_eq {E : XE} {K : XK} {nL N cells slots : Nat} {G : GW} {pc : Nat} {L : List (Nat × Value)} {st : List Value} {cc : ByteArray} {own : String} {ret : Option FieldType} {fr lo mc ms : Nat} (C : XC E K cc nL own ret fr lo mc ms) {x : Int32} {off : Int} (tgt : Nat) (hd : decode cc pc = .ok (.ifCond .eq off, 3)) (ht : (pc : Int) + off = (tgt : Int)) (kt : x = 0 → XW E K nL N cells slots G tgt L st) (kf : ¬ x = 0 → XW E K nL N cells slots G (pc + 3) L st) : XW E K nL N cells slots G pc L (.int x :: st) := by
  obtain ⟨p, l, e, R, s, m, args, below, meth, c, Q⟩ := K
  obtain ⟨hx, hb, hml, hown, hts, hr, hlk, hK, hB, hNw, hR⟩ := C
  intro H locs ls h1 h2 h3 h4
  exact lv_if_eq hx hb hd ht (fun q => kt q H locs ls h1 h2 h3 h4) (fun q => kf q H locs ls h1 h2 h3 h4)
theorem x_icmp_eq {E : XE} {K : XK} {nL N cells slots : Nat} {G : GW} {pc : Nat} {L : List (Nat × Value)} {st : List Value} {cc : ByteArray} {own : String} {ret : Option FieldType} {fr lo mc ms : Nat} (C : XC E K cc nL own ret fr lo mc ms) {x y : Int32} {off : Int} (tgt : Nat) (hd : decode cc pc = .ok (.if_icmp .eq off, 3)) (ht : (pc : Int) + off = (tgt : Int)) (kt : x = y → XW E K nL N cells slots G tgt L st) (kf : ¬ x = y → XW E K nL N cells slots G (pc + 3) L st) : XW E K nL N cells slots G pc L (.int y :: .int x :: st) := by
  obtain ⟨p, l, e, R, s, m, args, below, meth, c, Q⟩ := K
  obtain ⟨hx, hb, hml, hown, hts, hr, hlk, hK, hB, hNw, hR⟩ := C
  intro H locs ls h1 h2 h3 h4
  exact lv_icmp_eq hx hb hd ht (fun q => kt q H locs ls h1 h2 h3 h4) (fun q => kf q H locs ls h1 h2 h3 h4)
theorem x_if_ne {E : XE} {K : XK} {nL N cells slots : Nat} {G : GW} {pc : Nat} {L : List (Nat × Value)} {st : List Value} {cc : ByteArray} {own : String} {ret : Option FieldType} {fr lo mc ms : Nat} (C : XC E K cc nL own ret fr lo mc ms) {x : Int32} {off : Int} (tgt : Nat) (hd : decode cc pc = .ok (.ifCond .ne off, 3)) (ht : (pc : Int) + off = (tgt : Int)) (kt : ¬ x = 0 → XW E K nL N cells slots G tgt L st) (kf : x = 0 → XW E K nL N cells slots G (pc + 3) L st) : XW E K nL N cells slots G pc L (.int x :: st) := by
  obtain ⟨p, l, e, R, s, m, args, below, meth, c, Q⟩ := K
  obtain ⟨hx, hb, hml, hown, hts, hr, hlk, hK, hB, hNw, hR⟩ := C
  intro H locs ls h1 h2 h3 h4
  exact lv_if_ne hx hb hd ht (fun q => kt q H locs ls h1 h2 h3 h4) (fun q => kf q H locs ls h1 h2 h3 h4)
theorem x_icmp_ne {E : XE} {K : XK} {nL N cells slots : Nat} {G : GW} {pc : Nat} {L : List (Nat × Value)} {st : List Value} {cc : ByteArray} {own : String} {ret : Option FieldType} {fr lo mc ms : Nat} (C : XC E K cc nL own ret fr lo mc ms) {x y : Int32} {off : Int} (tgt : Nat) (hd : decode cc pc = .ok (.if_icmp .ne off, 3)) (ht : (pc : Int) + off = (tgt : Int)) (kt : ¬ x = y → XW E K nL N cells slots G tgt L st) (kf : x = y → XW E K nL N cells slots G (pc + 3) L st) : XW E K nL N cells slots G pc L (.int y :: .int x :: st) := by
  obtain ⟨p, l, e, R, s, m, args, below, meth, c, Q⟩ := K
  obtain ⟨hx, hb, hml, hown, hts, hr, hlk, hK, hB, hNw, hR⟩ := C
  intro H locs ls h1 h2 h3 h4
  exact lv_icmp_ne hx hb hd ht (fun q => kt q H locs ls h1 h2 h3 h4) (fun q => kf q H locs ls h1 h2 h3 h4)
theorem x_if_lt {E : XE} {K : XK} {nL N cells slots : Nat} {G : GW} {pc : Nat} {L : List (Nat × Value)} {st : List Value} {cc : ByteArray} {own : String} {ret : Option FieldType} {fr lo mc ms : Nat} (C : XC E K cc nL own ret fr lo mc ms) {x : Int32} {off : Int} (tgt : Nat) (hd : decode cc pc = .ok (.ifCond .lt off, 3)) (ht : (pc : Int) + off = (tgt : Int)) (kt : x < 0 → XW E K nL N cells slots G tgt L st) (kf : ¬ x < 0 → XW E K nL N cells slots G (pc + 3) L st) : XW E K nL N cells slots G pc L (.int x :: st) := by
  obtain ⟨p, l, e, R, s, m, args, below, meth, c, Q⟩ := K
  obtain ⟨hx, hb, hml, hown, hts, hr, hlk, hK, hB, hNw, hR⟩ := C
  intro H locs ls h1 h2 h3 h4
  exact lv_if_lt hx hb hd ht (fun q => kt q H locs ls h1 h2 h3 h4) (fun q => kf q H locs ls h1 h2 h3 h4)
theorem x_icmp_lt {E : XE} {K : XK} {nL N cells slots : Nat} {G : GW} {pc : Nat} {L : List (Nat × Value)} {st : List Value} {cc : ByteArray} {own : String} {ret : Option FieldType} {fr lo mc ms : Nat} (C : XC E K cc nL own ret fr lo mc ms) {x y : Int32} {off : Int} (tgt : Nat) (hd : decode cc pc = .ok (.if_icmp .lt off, 3)) (ht : (pc : Int) + off = (tgt : Int)) (kt : x < y → XW E K nL N cells slots G tgt L st) (kf : ¬ x < y → XW E K nL N cells slots G (pc + 3) L st) : XW E K nL N cells slots G pc L (.int y :: .int x :: st) := by
  obtain ⟨p, l, e, R, s, m, args, below, meth, c, Q⟩ := K
  obtain ⟨hx, hb, hml, hown, hts, hr, hlk, hK, hB, hNw, hR⟩ := C
  intro H locs ls h1 h2 h3 h4
  exact lv_icmp_lt hx hb hd ht (fun q => kt q H locs ls h1 h2 h3 h4) (fun q => kf q H locs ls h1 h2 h3 h4)
theorem x_if_ge {E : XE} {K : XK} {nL N cells slots : Nat} {G : GW} {pc : Nat} {L : List (Nat × Value)} {st : List Value} {cc : ByteArray} {own : String} {ret : Option FieldType} {fr lo mc ms : Nat} (C : XC E K cc nL own ret fr lo mc ms) {x : Int32} {off : Int} (tgt : Nat) (hd : decode cc pc = .ok (.ifCond .ge off, 3)) (ht : (pc : Int) + off = (tgt : Int)) (kt : 0 ≤ x → XW E K nL N cells slots G tgt L st) (kf : ¬ 0 ≤ x → XW E K nL N cells slots G (pc + 3) L st) : XW E K nL N cells slots G pc L (.int x :: st) := by
  obtain ⟨p, l, e, R, s, m, args, below, meth, c, Q⟩ := K
  obtain ⟨hx, hb, hml, hown, hts, hr, hlk, hK, hB, hNw, hR⟩ := C
  intro H locs ls h1 h2 h3 h4
  exact lv_if_ge hx hb hd ht (fun q => kt q H locs ls h1 h2 h3 h4) (fun q => kf q H locs ls h1 h2 h3 h4)
theorem x_icmp_ge {E : XE} {K : XK} {nL N cells slots : Nat} {G : GW} {pc : Nat} {L : List (Nat × Value)} {st : List Value} {cc : ByteArray} {own : String} {ret : Option FieldType} {fr lo mc ms : Nat} (C : XC E K cc nL own ret fr lo mc ms) {x y : Int32} {off : Int} (tgt : Nat) (hd : decode cc pc = .ok (.if_icmp .ge off, 3)) (ht : (pc : Int) + off = (tgt : Int)) (kt : y ≤ x → XW E K nL N cells slots G tgt L st) (kf : ¬ y ≤ x → XW E K nL N cells slots G (pc + 3) L st) : XW E K nL N cells slots G pc L (.int y :: .int x :: st) := by
  obtain ⟨p, l, e, R, s, m, args, below, meth, c, Q⟩ := K
  obtain ⟨hx, hb, hml, hown, hts, hr, hlk, hK, hB, hNw, hR⟩ := C
  intro H locs ls h1 h2 h3 h4
  exact lv_icmp_ge hx hb hd ht (fun q => kt q H locs ls h1 h2 h3 h4) (fun q => kf q H locs ls h1 h2 h3 h4)
theorem x_if_gt {E : XE} {K : XK} {nL N cells slots : Nat} {G : GW} {pc : Nat} {L : List (Nat × Value)} {st : List Value} {cc : ByteArray} {own : String} {ret : Option FieldType} {fr lo mc ms : Nat} (C : XC E K cc nL own ret fr lo mc ms) {x : Int32} {off : Int} (tgt : Nat) (hd : decode cc pc = .ok (.ifCond .gt off, 3)) (ht : (pc : Int) + off = (tgt : Int)) (kt : 0 < x → XW E K nL N cells slots G tgt L st) (kf : ¬ 0 < x → XW E K nL N cells slots G (pc + 3) L st) : XW E K nL N cells slots G pc L (.int x :: st) := by
  obtain ⟨p, l, e, R, s, m, args, below, meth, c, Q⟩ := K
  obtain ⟨hx, hb, hml, hown, hts, hr, hlk, hK, hB, hNw, hR⟩ := C
  intro H locs ls h1 h2 h3 h4
  exact lv_if_gt hx hb hd ht (fun q => kt q H locs ls h1 h2 h3 h4) (fun q => kf q H locs ls h1 h2 h3 h4)
theorem x_icmp_gt {E : XE} {K : XK} {nL N cells slots : Nat} {G : GW} {pc : Nat} {L : List (Nat × Value)} {st : List Value} {cc : ByteArray} {own : String} {ret : Option FieldType} {fr lo mc ms : Nat} (C : XC E K cc nL own ret fr lo mc ms) {x y : Int32} {off : Int} (tgt : Nat) (hd : decode cc pc = .ok (.if_icmp .gt off, 3)) (ht : (pc : Int) + off = (tgt : Int)) (kt : y < x → XW E K nL N cells slots G tgt L st) (kf : ¬ y < x → XW E K nL N cells slots G (pc + 3) L st) : XW E K nL N cells slots G pc L (.int y :: .int x :: st) := by
  obtain ⟨p, l, e, R, s, m, args, below, meth, c, Q⟩ := K
  obtain ⟨hx, hb, hml, hown, hts, hr, hlk, hK, hB, hNw, hR⟩ := C
  intro H locs ls h1 h2 h3 h4
  exact lv_icmp_gt hx hb hd ht (fun q => kt q H locs ls h1 h2 h3 h4) (fun q => kf q H locs ls h1 h2 h3 h4)
theorem x_if_le {E : XE} {K : XK} {nL N cells slots : Nat} {G : GW} {pc : Nat} {L : List (Nat × Value)} {st : List Value} {cc : ByteArray} {own : String} {ret : Option FieldType} {fr lo mc ms : Nat} (C : XC E K cc nL own ret fr lo mc ms) {x : Int32} {off : Int} (tgt : Nat) (hd : decode cc pc = .ok (.ifCond .le off, 3)) (ht : (pc : Int) + off = (tgt : Int)) (kt : x ≤ 0 → XW E K nL N cells slots G tgt L st) (kf : ¬ x ≤ 0 → XW E K nL N cells slots G (pc + 3) L st) : XW E K nL N cells slots G pc L (.int x :: st) := by
  obtain ⟨p, l, e, R, s, m, args, below, meth, c, Q⟩ := K
  obtain ⟨hx, hb, hml, hown, hts, hr, hlk, hK, hB, hNw, hR⟩ := C
  intro H locs ls h1 h2 h3 h4
  exact lv_if_le hx hb hd ht (fun q => kt q H locs ls h1 h2 h3 h4) (fun q => kf q H locs ls h1 h2 h3 h4)
theorem x_icmp_le {E : XE} {K : XK} {nL N cells slots : Nat} {G : GW} {pc : Nat} {L : List (Nat × Value)} {st : List Value} {cc : ByteArray} {own : String} {ret : Option FieldType} {fr lo mc ms : Nat} (C : XC E K cc nL own ret fr lo mc ms) {x y : Int32} {off : Int} (tgt : Nat) (hd : decode cc pc = .ok (.if_icmp .le off, 3)) (ht : (pc : Int) + off = (tgt : Int)) (kt : x ≤ y → XW E K nL N cells slots G tgt L st) (kf : ¬ x ≤ y → XW E K nL N cells slots G (pc + 3) L st) : XW E K nL N cells slots G pc L (.int y :: .int x :: st) := by
  obtain ⟨p, l, e, R, s, m, args, below, meth, c, Q⟩ := K
  obtain ⟨hx, hb, hml, hown, hts, hr, hlk, hK, hB, hNw, hR⟩ := C
  intro H locs ls h1 h2 h3 h4
  exact lv_icmp_le hx hb hd ht (fun q => kt q H locs ls h1 h2 h3 h4) (fun q => kf q H locs ls h1 h2 h3 h4)
theorem x_goto {E : XE} {K : XK} {nL N cells slots : Nat} {G : GW} {pc : Nat} {L : List (Nat × Value)} {st : List Value} {cc : ByteArray} {own : String} {ret : Option FieldType} {fr lo mc ms : Nat} (C : XC E K cc nL own ret fr lo mc ms) {off : Int} (tgt : Nat) (hd : decode cc pc = .ok (.goto off, 3)) (ht : (pc : Int) + off = (tgt : Int)) (k : XW E K nL N cells slots G tgt L st) : XW E K nL N cells slots G pc L st := by
  obtain ⟨p, l, e, R, s, m, args, below, meth, c, Q⟩ := K
  obtain ⟨hx, hb, hml, hown, hts, hr, hlk, hK, hB, hNw, hR⟩ := C
  intro H locs ls h1 h2 h3 h4
  exact lv_goto hx hb hd ht (k H locs ls h1 h2 h3 h4)
theorem x_lookup {E : XE} {K : XK} {nL N cells slots : Nat} {G : GW} {pc : Nat} {L : List (Nat × Value)} {st : List Value} {cc : ByteArray} {own : String} {ret : Option FieldType} {fr lo mc ms : Nat} (C : XC E K cc nL own ret fr lo mc ms) {dflt : Int} {ps : Array (Int × Int)} {len : Nat} {x : Int32} {off : Int} (tgt : Nat) (hd : decode cc pc = .ok (.lookupswitch dflt ps, len)) (hp : (ps.toList.zip (ps.toList.drop 1)).all (fun (a, next) => a.1 < next.1) = true) (ho : Op.lookupswitch.offset ps.toList dflt x.toInt = off) (ht : (pc : Int) + off = (tgt : Int)) (k : XW E K nL N cells slots G tgt L st) : XW E K nL N cells slots G pc L (.int x :: st) := by
  obtain ⟨p, l, e, R, s, m, args, below, meth, c, Q⟩ := K
  obtain ⟨hx, hb, hml, hown, hts, hr, hlk, hK, hB, hNw, hR⟩ := C
  intro H locs ls h1 h2 h3 h4
  exact lv_lookup hx hb hd hp ho ht (k H locs ls h1 h2 h3 h4)
theorem x_tableOut {E : XE} {K : XK} {nL N cells slots : Nat} {G : GW} {pc : Nat} {L : List (Nat × Value)} {st : List Value} {cc : ByteArray} {own : String} {ret : Option FieldType} {fr lo mc ms : Nat} (C : XC E K cc nL own ret fr lo mc ms) {dflt lw hi : Int} {offs : Array Int} {len : Nat} {x : Int32} (tgt : Nat) (hd : decode cc pc = .ok (.tableswitch dflt lw hi offs, len)) (h : x.toInt < lw ∨ hi < x.toInt) (ht : (pc : Int) + dflt = (tgt : Int)) (k : XW E K nL N cells slots G tgt L st) : XW E K nL N cells slots G pc L (.int x :: st) := by
  obtain ⟨p, l, e, R, s, m, args, below, meth, c, Q⟩ := K
  obtain ⟨hx, hb, hml, hown, hts, hr, hlk, hK, hB, hNw, hR⟩ := C
  intro H locs ls h1 h2 h3 h4
  exact lv_tableOut hx hb hd h ht (k H locs ls h1 h2 h3 h4)
theorem x_tableIn {E : XE} {K : XK} {nL N cells slots : Nat} {G : GW} {pc : Nat} {L : List (Nat × Value)} {st : List Value} {cc : ByteArray} {own : String} {ret : Option FieldType} {fr lo mc ms : Nat} (C : XC E K cc nL own ret fr lo mc ms) {dflt lw hi : Int} {offs : Array Int} {len : Nat} {x : Int32} {off : Int} (tgt : Nat) (hd : decode cc pc = .ok (.tableswitch dflt lw hi offs, len)) (q1 : ¬ x.toInt < lw) (q2 : ¬ hi < x.toInt) (ho : offs[(x.toInt - lw).toNat]? = some off) (ht : (pc : Int) + off = (tgt : Int)) (k : XW E K nL N cells slots G tgt L st) : XW E K nL N cells slots G pc L (.int x :: st) := by
  obtain ⟨p, l, e, R, s, m, args, below, meth, c, Q⟩ := K
  obtain ⟨hx, hb, hml, hown, hts, hr, hlk, hK, hB, hNw, hR⟩ := C
  intro H locs ls h1 h2 h3 h4
  exact lv_tableIn hx hb hd q1 q2 ho ht (k H locs ls h1 h2 h3 h4)
theorem x_ifnull {E : XE} {K : XK} {nL N cells slots : Nat} {G : GW} {pc : Nat} {L : List (Nat × Value)} {st : List Value} {cc : ByteArray} {own : String} {ret : Option FieldType} {fr lo mc ms : Nat} (C : XC E K cc nL own ret fr lo mc ms) {x : Nat} {off : Int} (hd : decode cc pc = .ok (.ifnull off, 3)) (k : XW E K nL N cells slots G (pc + 3) L st) : XW E K nL N cells slots G pc L (.ref x :: st) := by
  obtain ⟨p, l, e, R, s, m, args, below, meth, c, Q⟩ := K
  obtain ⟨hx, hb, hml, hown, hts, hr, hlk, hK, hB, hNw, hR⟩ := C
  intro H locs ls h1 h2 h3 h4
  exact lv_ifnull hx hb hd (k H locs ls h1 h2 h3 h4)
theorem x_ldc {E : XE} {K : XK} {nL N cells slots : Nat} {G : GW} {pc : Nat} {L : List (Nat × Value)} {st : List Value} {cc : ByteArray} {own : String} {ret : Option FieldType} {fr lo mc ms : Nat} (C : XC E K cc nL own ret fr lo mc ms) {index : Nat} (v : Int32) (hw : Cond.constant own index v ∈ LW) (hd : decode cc pc = .ok (.ldc index, 2)) (k : XW E K nL N cells slots G (pc + 2) L (.int v :: st)) : XW E K nL N cells slots G pc L st := by
  obtain ⟨p, l, e, R, s, m, args, below, meth, c, Q⟩ := K
  obtain ⟨hx, hb, hml, hown, hts, hr, hlk, hK, hB, hNw, hR⟩ := C
  intro H locs ls h1 h2 h3 h4
  exact lv_ldc hx hb hown (hts _ hw) hd (k H locs ls h1 h2 h3 h4)
theorem x_ldcf {E : XE} {K : XK} {nL N cells slots : Nat} {G : GW} {pc : Nat} {L : List (Nat × Value)} {st : List Value} {cc : ByteArray} {own : String} {ret : Option FieldType} {fr lo mc ms : Nat} (C : XC E K cc nL own ret fr lo mc ms) {index : Nat} (v : UInt32) (hw : Cond.constantFloat own index v ∈ LW) (hd : decode cc pc = .ok (.ldc index, 2)) (k : XW E K nL N cells slots G (pc + 2) L (.float v :: st)) : XW E K nL N cells slots G pc L st := by
  obtain ⟨p, l, e, R, s, m, args, below, meth, c, Q⟩ := K
  obtain ⟨hx, hb, hml, hown, hts, hr, hlk, hK, hB, hNw, hR⟩ := C
  intro H locs ls h1 h2 h3 h4
  exact lv_ldcf hx hb hown (hts _ hw) hd (k H locs ls h1 h2 h3 h4)
/-- a field's link: class own names at index the k-th field of the class in place ci -/
def XF (own : String) (index ci k : Nat) (C : String) (T : u_T) (n : Nat) : Prop := vwCl[ci]? = some (C, T, n) ∧ k < n ∧ Cond.fieldLink own index (T k).1 (T k).2.1 (T k).2.2.1 ∈ LW ∧ ∀ w ∈ u_ws C T n, w ∈ LW
def XT (C : String) (T : u_T) (n : Nat) (ty : Nat → FieldType) : Prop := (∀ k, k < n → parseFieldDescriptor (T k).2.2.1 = some (ty k)) ∧ (∀ a, a < n → ∀ b, b < n → a ≠ b → (T a).2.1 ≠ (T b).2.1)
theorem x_get {E : XE} {K : XK} {nL N cells slots : Nat} {G : GW} {pc : Nat} {L : List (Nat × Value)} {st : List Value} {cc : ByteArray} {own : String} {ret : Option FieldType} {fr lo mc ms : Nat} (C : XC E K cc nL own ret fr lo mc ms) {a ci index k n : Nat} {C1 : String} {T : u_T} {fs : List Value} {v : Value} (ha : xB E ≤ a) (hz : a < N) (he : G a = .inr (ci, fs)) (hF : XF own index ci k C1 T n) (hv : fs[k]? = some v) (hd : decode cc pc = .ok (.getfield index, 3)) (kk : XW E K nL N cells slots G (pc + 3) L (v :: st)) : XW E K nL N cells slots G pc L (.ref a :: st) := by
  obtain ⟨p, l, e, R, s, m, args, below, meth, c, Q⟩ := K
  obtain ⟨hx, hb, hml, hown, hts, hr, hlk, hK, hB, hNw, hR⟩ := C
  obtain ⟨f1, f2, f3, f4⟩ := hF
  intro H locs ls h1 h2 h3 h4
  exact va_get (D := E.1) (cl := vwCl) (ci := ci) hx hb hts f4 hown hK h2 (a - xB E) (by rw [wl_get ha hz, he]) f1 k f2 (hts _ f3) (fun _ h => h) hv hd (kk H locs ls h1 h2 h3 h4)
theorem x_put {E : XE} {K : XK} {nL N cells slots : Nat} {G : GW} {pc : Nat} {L : List (Nat × Value)} {st : List Value} {cc : ByteArray} {own : String} {ret : Option FieldType} {fr lo mc ms : Nat} (C : XC E K cc nL own ret fr lo mc ms) {a ci index k n : Nat} {C1 : String} {T : u_T} {tyf : Nat → FieldType} {fs : List Value} {v : Value} {G' : GW} (ha : xB E ≤ a) (hz : a < N) (he : G a = .inr (ci, fs)) (hF : XF own index ci k C1 T n) (hT : XT C1 T n tyf) (hfin : (T k).2.2.2 = false) (hnv : narrow (tyf k) v = v) (hfit : fits (tyf k) v = true) (hl : Nat.blt k fs.length = true) (hG : gup G a (.inr (ci, fs.set k v)) = G') (hd : decode cc pc = .ok (.putfield index, 3)) (kk : XW E K nL N cells slots G' (pc + 3) L st) : XW E K nL N cells slots G pc L (v :: .ref a :: st) := by
  subst hG
  obtain ⟨p, l, e, R, s, m, args, below, meth, c, Q⟩ := K
  obtain ⟨hx, hb, hml, hown, hts, hr, hlk, hK, hB, hNw, hR⟩ := C
  obtain ⟨f1, f2, f3, f4⟩ := hF
  intro H locs ls h1 h2 h3 h4
  exact va_put (D := E.1) (cl := vwCl) (ci := ci) hx hb hts f4 tyf hT.1 hT.2 hown hK h2 (wl_D E N G) h3 (a - xB E) (by rw [wl_get ha hz, he]) f1 k f2 (hts _ f3) (fun _ h => h) hfin (hT.1 k f2) hnv hfit (Nat.le_of_ble_eq_true hl) hd (fun H9 locs9 q1 q2 q3 => kk H9 locs9 ls h1 (by rw [wl_set ha hz] at q1; exact q1) q3 h4)
theorem x_putF {E : XE} {K : XK} {nL N cells slots : Nat} {G : GW} {pc : Nat} {L : List (Nat × Value)} {st : List Value} {cc : ByteArray} {own : String} {ret : Option FieldType} {fr lo mc ms : Nat} (C : XC E K cc nL own ret fr lo mc ms) {a ci index k n : Nat} {C1 : String} {T : u_T} {tyf : Nat → FieldType} {fs : List Value} {v : Value} {G' : GW} (ha : xB E ≤ a) (hz : a < N) (he : G a = .inr (ci, fs)) (hF : XF own index ci k C1 T n) (hT : XT C1 T n tyf) (hfin : (T k).2.2.2 = true) (hN : K.2.2.2.2.2.2.2.2.1.name = "<init>") (hdec : (T k).1 = own) (hnv : narrow (tyf k) v = v) (hfit : fits (tyf k) v = true) (hl : Nat.blt k fs.length = true) (hG : gup G a (.inr (ci, fs.set k v)) = G') (hd : decode cc pc = .ok (.putfield index, 3)) (kk : XW E K nL N cells slots G' (pc + 3) L st) : XW E K nL N cells slots G pc L (v :: .ref a :: st) := by
  subst hG
  obtain ⟨p, l, e, R, s, m, args, below, meth, c, Q⟩ := K
  obtain ⟨hx, hb, hml, hown, hts, hr, hlk, hK, hB, hNw, hR⟩ := C
  obtain ⟨f1, f2, f3, f4⟩ := hF
  intro H locs ls h1 h2 h3 h4
  exact va_putF (D := E.1) (cl := vwCl) (ci := ci) hx hb hts f4 tyf hT.1 hT.2 hown hK h2 (wl_D E N G) h3 (a - xB E) (by rw [wl_get ha hz, he]) f1 k f2 (hts _ f3) (fun _ h => h) hfin hN hdec (hT.1 k f2) hnv hfit (Nat.le_of_ble_eq_true hl) hd (fun H9 locs9 q1 q2 q3 => kk H9 locs9 ls h1 (by rw [wl_set ha hz] at q1; exact q1) q3 h4)
theorem x_iald {E : XE} {K : XK} {nL N cells slots : Nat} {G : GW} {pc : Nat} {L : List (Nat × Value)} {st : List Value} {cc : ByteArray} {own : String} {ret : Option FieldType} {fr lo mc ms : Nat} (C : XC E K cc nL own ret fr lo mc ms) {a n : Nat} {f : Nat → Int32} {i : Int32} (v : Int32) (ha : xB E ≤ a) (hz : a < N) (he : G a = .inl (xI E, n, .inl f)) (hin : vp_in i n) (hv : f i.toNatClampNeg = v) (hd : decode cc pc = .ok (.iaload, 1)) (k : XW E K nL N cells slots G (pc + 1) L (.int v :: st)) : XW E K nL N cells slots G pc L (.int i :: .ref a :: st) := by
  subst hv
  obtain ⟨p, l, e, R, s, m, args, below, meth, c, Q⟩ := K
  obtain ⟨hx, hb, hml, hown, hts, hr, hlk, hK, hB, hNw, hR⟩ := C
  intro H locs ls h1 h2 h3 h4
  exact va_iald (D := E.1) (cl := vwCl) hx hb hK h2 (a - xB E) 0 (by rw [wl_get ha hz, he]) rfl hin hd (k H locs ls h1 h2 h3 h4)
theorem x_cald {E : XE} {K : XK} {nL N cells slots : Nat} {G : GW} {pc : Nat} {L : List (Nat × Value)} {st : List Value} {cc : ByteArray} {own : String} {ret : Option FieldType} {fr lo mc ms : Nat} (C : XC E K cc nL own ret fr lo mc ms) {a n : Nat} {f : Nat → Int32} {i : Int32} (v : Int32) (ha : xB E ≤ a) (hz : a < N) (he : G a = .inl (xCh E, n, .inl f)) (hin : vp_in i n) (hv : f i.toNatClampNeg = v) (hd : decode cc pc = .ok (.caload, 1)) (k : XW E K nL N cells slots G (pc + 1) L (.int v :: st)) : XW E K nL N cells slots G pc L (.int i :: .ref a :: st) := by
  subst hv
  obtain ⟨p, l, e, R, s, m, args, below, meth, c, Q⟩ := K
  obtain ⟨hx, hb, hml, hown, hts, hr, hlk, hK, hB, hNw, hR⟩ := C
  intro H locs ls h1 h2 h3 h4
  exact va_cald (D := E.1) (cl := vwCl) hx hb hK h2 (a - xB E) 2 (by rw [wl_get ha hz, he]) rfl hin hd (k H locs ls h1 h2 h3 h4)
theorem x_lald {E : XE} {K : XK} {nL N cells slots : Nat} {G : GW} {pc : Nat} {L : List (Nat × Value)} {st : List Value} {cc : ByteArray} {own : String} {ret : Option FieldType} {fr lo mc ms : Nat} (C : XC E K cc nL own ret fr lo mc ms) {a n : Nat} {f : Nat → Int64} {i : Int32} (v : Int64) (ha : xB E ≤ a) (hz : a < N) (he : G a = .inl (xJ E, n, .inr (.inl f))) (hin : vp_in i n) (hv : f i.toNatClampNeg = v) (hd : decode cc pc = .ok (.laload, 1)) (k : XW E K nL N cells slots G (pc + 1) L (.long v :: st)) : XW E K nL N cells slots G pc L (.int i :: .ref a :: st) := by
  subst hv
  obtain ⟨p, l, e, R, s, m, args, below, meth, c, Q⟩ := K
  obtain ⟨hx, hb, hml, hown, hts, hr, hlk, hK, hB, hNw, hR⟩ := C
  intro H locs ls h1 h2 h3 h4
  exact va_lald (D := E.1) (cl := vwCl) hx hb hK h2 (a - xB E) 1 (by rw [wl_get ha hz, he]) rfl hin hd (k H locs ls h1 h2 h3 h4)
theorem x_aald {E : XE} {K : XK} {nL N cells slots : Nat} {G : GW} {pc : Nat} {L : List (Nat × Value)} {st : List Value} {cc : ByteArray} {own : String} {ret : Option FieldType} {fr lo mc ms : Nat} (C : XC E K cc nL own ret fr lo mc ms) {a n : Nat} {f : Nat → Option Nat} {i : Int32} (v : Nat) (ha : xB E ≤ a) (hz : a < N) (he : G a = .inl (xQ E, n, .inr (.inr (.inr (.inr f))))) (hin : vp_in i n) (hv : f i.toNatClampNeg = some v) (hd : decode cc pc = .ok (.aaload, 1)) (k : XW E K nL N cells slots G (pc + 1) L (.ref v :: st)) : XW E K nL N cells slots G pc L (.int i :: .ref a :: st) := by
  have hv2 : va_rf (f i.toNatClampNeg) = .ref v := by rw [hv]; rfl
  obtain ⟨p, l, e, R, s, m, args, below, meth, c, Q⟩ := K
  obtain ⟨hx, hb, hml, hown, hts, hr, hlk, hK, hB, hNw, hR⟩ := C
  intro H locs ls h1 h2 h3 h4
  refine va_aldq (D := E.1) (cl := vwCl) hx hb hK h2 (a - xB E) 3 (by rw [wl_get ha hz, he]) rfl hin hd ?_
  rw [hv2]
  exact k H locs ls h1 h2 h3 h4
theorem x_iast {E : XE} {K : XK} {nL N cells slots : Nat} {G : GW} {pc : Nat} {L : List (Nat × Value)} {st : List Value} {cc : ByteArray} {own : String} {ret : Option FieldType} {fr lo mc ms : Nat} (C : XC E K cc nL own ret fr lo mc ms) {a n : Nat} {f : Nat → Int32} {i : Int32} {v : Int32} {G' : GW} (j : Nat) (ha : xB E ≤ a) (hz : a < N) (he : G a = .inl (xI E, n, .inl f)) (hin : vp_in i n) (hj : i.toNatClampNeg = j) (hG : gup G a (.inl (xI E, n, .inl (upd f j v))) = G') (hd : decode cc pc = .ok (.iastore, 1)) (k : XW E K nL N cells slots G' (pc + 1) L st) : XW E K nL N cells slots G pc L (.int v :: .int i :: .ref a :: st) := by
  subst hj
  subst hG
  obtain ⟨p, l, e, R, s, m, args, below, meth, c, Q⟩ := K
  obtain ⟨hx, hb, hml, hown, hts, hr, hlk, hK, hB, hNw, hR⟩ := C
  intro H locs ls h1 h2 h3 h4
  exact va_iast (D := E.1) (cl := vwCl) hx hb hK h2 (wl_D E N G) h3 (a - xB E) 0 (by rw [wl_get ha hz, he]) rfl hin hd (fun H9 locs9 q1 q2 q3 => k H9 locs9 ls h1 (by rw [wl_set ha hz] at q1; exact q1) q3 h4)
theorem x_cast {E : XE} {K : XK} {nL N cells slots : Nat} {G : GW} {pc : Nat} {L : List (Nat × Value)} {st : List Value} {cc : ByteArray} {own : String} {ret : Option FieldType} {fr lo mc ms : Nat} (C : XC E K cc nL own ret fr lo mc ms) {a n : Nat} {f : Nat → Int32} {i : Int32} {v : Int32} {G' : GW} (j : Nat) (ha : xB E ≤ a) (hz : a < N) (he : G a = .inl (xCh E, n, .inl f)) (hin : vp_in i n) (hj : i.toNatClampNeg = j) (hG : gup G a (.inl (xCh E, n, .inl (upd f j (vp_nar .char v)))) = G') (hd : decode cc pc = .ok (.castore, 1)) (k : XW E K nL N cells slots G' (pc + 1) L st) : XW E K nL N cells slots G pc L (.int v :: .int i :: .ref a :: st) := by
  subst hj
  subst hG
  obtain ⟨p, l, e, R, s, m, args, below, meth, c, Q⟩ := K
  obtain ⟨hx, hb, hml, hown, hts, hr, hlk, hK, hB, hNw, hR⟩ := C
  intro H locs ls h1 h2 h3 h4
  exact va_cast (D := E.1) (cl := vwCl) hx hb hK h2 (wl_D E N G) h3 (a - xB E) 2 (by rw [wl_get ha hz, he]) rfl hin hd (fun H9 locs9 q1 q2 q3 => k H9 locs9 ls h1 (by rw [wl_set ha hz] at q1; exact q1) q3 h4)
theorem x_last {E : XE} {K : XK} {nL N cells slots : Nat} {G : GW} {pc : Nat} {L : List (Nat × Value)} {st : List Value} {cc : ByteArray} {own : String} {ret : Option FieldType} {fr lo mc ms : Nat} (C : XC E K cc nL own ret fr lo mc ms) {a n : Nat} {f : Nat → Int64} {i : Int32} {v : Int64} {G' : GW} (j : Nat) (ha : xB E ≤ a) (hz : a < N) (he : G a = .inl (xJ E, n, .inr (.inl f))) (hin : vp_in i n) (hj : i.toNatClampNeg = j) (hG : gup G a (.inl (xJ E, n, .inr (.inl (vp_updL f j v)))) = G') (hd : decode cc pc = .ok (.lastore, 1)) (k : XW E K nL N cells slots G' (pc + 1) L st) : XW E K nL N cells slots G pc L (.long v :: .int i :: .ref a :: st) := by
  subst hj
  subst hG
  obtain ⟨p, l, e, R, s, m, args, below, meth, c, Q⟩ := K
  obtain ⟨hx, hb, hml, hown, hts, hr, hlk, hK, hB, hNw, hR⟩ := C
  intro H locs ls h1 h2 h3 h4
  exact va_last (D := E.1) (cl := vwCl) hx hb hK h2 (wl_D E N G) h3 (a - xB E) 1 (by rw [wl_get ha hz, he]) rfl hin hd (fun H9 locs9 q1 q2 q3 => k H9 locs9 ls h1 (by rw [wl_set ha hz] at q1; exact q1) q3 h4)
theorem x_aast {E : XE} {K : XK} {nL N cells slots : Nat} {G : GW} {pc : Nat} {L : List (Nat × Value)} {st : List Value} {cc : ByteArray} {own : String} {ret : Option FieldType} {fr lo mc ms : Nat} (C : XC E K cc nL own ret fr lo mc ms) {a n b ci nf : Nat} {f : Nat → Option Nat} {fs : List Value} {T : u_T} {i : Int32} {G' : GW} (j : Nat) (ha : xB E ≤ a) (hz : a < N) (he : G a = .inl (xQ E, n, .inr (.inr (.inr (.inr f))))) (hin : vp_in i n) (hj : i.toNatClampNeg = j) (hb1 : xB E ≤ b) (hb2 : b < N) (hv : G b = .inr (ci, fs)) (hc : vwCl[ci]? = some ("SharedEchoes$State", T, nf)) (hG : gup G a (.inl (xQ E, n, .inr (.inr (.inr (.inr (va_up f j (some b))))))) = G') (hd : decode cc pc = .ok (.aastore, 1)) (k : XW E K nL N cells slots G' (pc + 1) L st) : XW E K nL N cells slots G pc L (.ref b :: .int i :: .ref a :: st) := by
  subst hj
  subst hG
  obtain ⟨p, l, e, R, s, m, args, below, meth, c, Q⟩ := K
  obtain ⟨hx, hb, hml, hown, hts, hr, hlk, hK, hB, hNw, hR⟩ := C
  intro H locs ls h1 h2 h3 h4
  exact va_astq (D := E.1) (cl := vwCl) (r := ("SharedEchoes$State", T, nf)) hx hb hK h2 (wl_D E N G) h3 (a - xB E) 3 (b - xB E) ci (by rw [wl_get ha hz, he]) rfl (by rw [wl_get hb1 hb2, hv]) hc hin hd (fun H9 locs9 q1 q2 q3 => k H9 locs9 ls h1 (by rw [wl_set ha hz] at q1; exact q1) q3 h4)
theorem x_alen {E : XE} {K : XK} {nL N cells slots : Nat} {G : GW} {pc : Nat} {L : List (Nat × Value)} {st : List Value} {cc : ByteArray} {own : String} {ret : Option FieldType} {fr lo mc ms : Nat} (C : XC E K cc nL own ret fr lo mc ms) {a n : Nat} {f : Nat → Int32} (v : Int32) (ha : xB E ≤ a) (hz : a < N) (he : G a = .inl (xI E, n, .inl f)) (hv : Int32.ofNat n = v) (hd : decode cc pc = .ok (.arraylength, 1)) (k : XW E K nL N cells slots G (pc + 1) L (.int v :: st)) : XW E K nL N cells slots G pc L (.ref a :: st) := by
  obtain ⟨p, l, e, R, s, m, args, below, meth, c, Q⟩ := K
  obtain ⟨hx, hb, hml, hown, hts, hr, hlk, hK, hB, hNw, hR⟩ := C
  intro H locs ls h1 h2 h3 h4
  exact va_alen (D := E.1) (cl := vwCl) hx hb hK h2 (a - xB E) 0 (by rw [wl_get ha hz, he]) rfl hv hd (k H locs ls h1 h2 h3 h4)
theorem x_copyi {E : XE} {K : XK} {nL N cells slots : Nat} {G : GW} {pc : Nat} {L : List (Nat × Value)} {st : List Value} {cc : ByteArray} {own : String} {ret : Option FieldType} {fr lo mc ms : Nat} (C : XC E K cc nL own ret fr lo mc ms) {index a0 a n0 n1 : Nat} {f g : Nat → Int32} {sp dp n : Int32} {G' : GW} (js jd jn : Nat) (w1 : Cond.methodLink own index arraycopyName ∈ LW) (ha0 : xB E ≤ a0) (hz0 : a0 < N) (he0 : G a0 = .inl (xI E, n0, .inl f)) (ha : xB E ≤ a) (hz : a < N) (he : G a = .inl (xI E, n1, .inl g)) (q1 : ¬ sp < 0) (q2 : ¬ dp < 0) (q3 : ¬ n < 0) (hs : sp.toNatClampNeg = js) (hdp : dp.toNatClampNeg = jd) (hn : n.toNatClampNeg = jn) (q4 : js + jn ≤ n0) (q5 : jd + jn ≤ n1) (hfr : Nat.ble 1 fr = true) (hlo : Nat.ble ((st.map fun v => v.category).sum + (nativeFrameWords "java/lang/System" "arraycopy" 5 + 11)) lo = true) (hG : gup G a (.inl (xI E, n1, .inl (va_cpy f g js jd jn))) = G') (hd : decode cc pc = .ok (.invokestatic index, 3)) (k : XW E K nL N cells slots G' (pc + 3) L st) : XW E K nL N cells slots G pc L (.int n :: .int dp :: .ref a :: .int sp :: .ref a0 :: st) := by
  subst hs; subst hdp; subst hn; subst hG
  obtain ⟨p, l, e, R, s, m, args, below, meth, c, Q⟩ := K
  obtain ⟨hx, hb, hml, hown, hts, hr, hlk, hK, hB, hNw, hR⟩ := C
  subst hR
  intro H locs ls h1 h2 h3 h4
  exact va_copyi (D := E.1) (cl := vwCl) hx hb (hml.trans h4.1.symm) hown (hts _ w1) (hts _ x_nat_arraycopy) (hts _ x_stat_arraycopy) (hts _ x_ini_System) hK h2 (wl_D E N G) h3 (a0 - xB E) (a - xB E) 0 0 (by rw [wl_get ha0 hz0, he0]) (by rw [wl_get ha hz, he]) rfl rfl rfl q1 q2 q3 q4 q5 (fun _ _ => rfl) (Nat.le_of_ble_eq_true hfr) (Nat.le_of_ble_eq_true hlo) hd (fun H9 locs9 p1 p2 p3 => k H9 locs9 ls h1 (by rw [wl_set ha hz] at p1; exact p1) p3 h4)
theorem x_mmax {E : XE} {K : XK} {nL N cells slots : Nat} {G : GW} {pc : Nat} {L : List (Nat × Value)} {st : List Value} {cc : ByteArray} {own : String} {ret : Option FieldType} {fr lo mc ms : Nat} (C : XC E K cc nL own ret fr lo mc ms) {index : Nat} {x y : Int32} (w1 : Cond.methodLink own index Lib.Math.max.name ∈ LW) (hfr : Nat.ble 1 fr = true) (hlo : Nat.ble ((st.map fun v => v.category).sum + 13) lo = true) (hc : Nat.ble cells mc = true) (hs : Nat.ble slots ms = true) (hd : decode cc pc = .ok (.invokestatic index, 3)) (k : XW E K nL N cells slots G (pc + 3) L (.int (if x < y then y else x) :: st)) : XW E K nL N cells slots G pc L (.int y :: .int x :: st) := by
  obtain ⟨p, l, e, R, s, m, args, below, meth, c, Q⟩ := K
  obtain ⟨hx, hb, hml, hown, hts, hr, hlk, hK, hB, hNw, hR⟩ := C
  subst hR
  intro H locs ls h1 h2 h3 h4
  exact va_mmax hx hb (hml.trans h4.1.symm) hown (hts _ w1) (hts _ x_stat_max) (hts _ x_ini_Math) (hts _ x_code_max) (Nat.le_of_ble_eq_true hfr) (Nat.le_of_ble_eq_true hlo) (Nat.le_of_ble_eq_true hc) (Nat.le_of_ble_eq_true hs) hd (k H locs ls h1 h2 h3 h4)
theorem x_mmin {E : XE} {K : XK} {nL N cells slots : Nat} {G : GW} {pc : Nat} {L : List (Nat × Value)} {st : List Value} {cc : ByteArray} {own : String} {ret : Option FieldType} {fr lo mc ms : Nat} (C : XC E K cc nL own ret fr lo mc ms) {index : Nat} {x y : Int32} (w1 : Cond.methodLink own index Lib.Math.min.name ∈ LW) (hfr : Nat.ble 1 fr = true) (hlo : Nat.ble ((st.map fun v => v.category).sum + 13) lo = true) (hc : Nat.ble cells mc = true) (hs : Nat.ble slots ms = true) (hd : decode cc pc = .ok (.invokestatic index, 3)) (k : XW E K nL N cells slots G (pc + 3) L (.int (if y < x then y else x) :: st)) : XW E K nL N cells slots G pc L (.int y :: .int x :: st) := by
  obtain ⟨p, l, e, R, s, m, args, below, meth, c, Q⟩ := K
  obtain ⟨hx, hb, hml, hown, hts, hr, hlk, hK, hB, hNw, hR⟩ := C
  subst hR
  intro H locs ls h1 h2 h3 h4
  exact va_mmin hx hb (hml.trans h4.1.symm) hown (hts _ w1) (hts _ x_stat_min) (hts _ x_ini_Math) (hts _ x_code_min) (Nat.le_of_ble_eq_true hfr) (Nat.le_of_ble_eq_true hlo) (Nat.le_of_ble_eq_true hc) (Nat.le_of_ble_eq_true hs) hd (k H locs ls h1 h2 h3 h4)
theorem x_mabs {E : XE} {K : XK} {nL N cells slots : Nat} {G : GW} {pc : Nat} {L : List (Nat × Value)} {st : List Value} {cc : ByteArray} {own : String} {ret : Option FieldType} {fr lo mc ms : Nat} (C : XC E K cc nL own ret fr lo mc ms) {index : Nat} {x : Int32} (w1 : Cond.methodLink own index Lib.Math.abs.name ∈ LW) (hfr : Nat.ble 1 fr = true) (hlo : Nat.ble ((st.map fun v => v.category).sum + 13) lo = true) (hc : Nat.ble cells mc = true) (hs : Nat.ble slots ms = true) (hd : decode cc pc = .ok (.invokestatic index, 3)) (k : XW E K nL N cells slots G (pc + 3) L (.int (if 0 ≤ x then x else 0 - x) :: st)) : XW E K nL N cells slots G pc L (.int x :: st) := by
  obtain ⟨p, l, e, R, s, m, args, below, meth, c, Q⟩ := K
  obtain ⟨hx, hb, hml, hown, hts, hr, hlk, hK, hB, hNw, hR⟩ := C
  subst hR
  intro H locs ls h1 h2 h3 h4
  exact va_mabs hx hb (hml.trans h4.1.symm) hown (hts _ w1) (hts _ x_stat_abs) (hts _ x_ini_Math) (hts _ x_code_abs) (Nat.le_of_ble_eq_true hfr) (Nat.le_of_ble_eq_true hlo) (Nat.le_of_ble_eq_true hc) (Nat.le_of_ble_eq_true hs) hd (k H locs ls h1 h2 h3 h4)
theorem x_rawbits {E : XE} {K : XK} {nL N cells slots : Nat} {G : GW} {pc : Nat} {L : List (Nat × Value)} {st : List Value} {cc : ByteArray} {own : String} {ret : Option FieldType} {fr lo mc ms : Nat} (C : XC E K cc nL own ret fr lo mc ms) {index : Nat} {b : UInt32} (w1 : Cond.methodLink own index ⟨"java/lang/Float", "floatToRawIntBits", "(F)I"⟩ ∈ LW) (hfr : Nat.ble 1 fr = true) (hlo : Nat.ble ((st.map fun v => v.category).sum + 15) lo = true) (hd : decode cc pc = .ok (.invokestatic index, 3)) (k : XW E K nL N cells slots G (pc + 3) L (.int b.toInt32 :: st)) : XW E K nL N cells slots G pc L (.float b :: st) := by
  obtain ⟨p, l, e, R, s, m, args, below, meth, c, Q⟩ := K
  obtain ⟨hx, hb, hml, hown, hts, hr, hlk, hK, hB, hNw, hR⟩ := C
  subst hR
  intro H locs ls h1 h2 h3 h4
  exact vn_f2i hx hb (hml.trans h4.1.symm) hown (hts _ w1) (hts _ x_nat_raw) (hts _ x_stat_raw) (hts _ x_ini_Float) (Nat.le_of_ble_eq_true hfr) (Nat.le_of_ble_eq_true hlo) hd (k H locs ls h1 h2 h3 h4)
theorem x_objInit {E : XE} {K : XK} {nL N cells slots : Nat} {G : GW} {pc : Nat} {L : List (Nat × Value)} {st : List Value} {cc : ByteArray} {own : String} {ret : Option FieldType} {fr lo mc ms : Nat} (C : XC E K cc nL own ret fr lo mc ms) {index a : Nat} (w1 : Cond.methodLink own index Lib.objectInit ∈ LW) (hfr : Nat.ble 1 fr = true) (hlo : Nat.ble ((st.map fun v => v.category).sum + 12) lo = true) (hd : decode cc pc = .ok (.invokespecial index, 3)) (k : XW E K nL N cells slots G (pc + 3) L st) : XW E K nL N cells slots G pc L (.ref a :: st) := by
  obtain ⟨p, l, e, R, s, m, args, below, meth, c, Q⟩ := K
  obtain ⟨hx, hb, hml, hown, hts, hr, hlk, hK, hB, hNw, hR⟩ := C
  subst hR
  intro H locs ls h1 h2 h3 h4
  exact W.objInit hx hb hown (hts _ w1) (hts _ x_inst_obj) (hts _ x_code_obj) rfl (by rw [hml]; exact h4.1) rfl hd (Nat.le_of_ble_eq_true hfr) (by have h9 := Nat.le_of_ble_eq_true hlo; show 2 * 0 + (st.map fun v => v.category).sum + 12 ≤ lo; omega) (k H locs ls h1 h2 h3 h4)
theorem x_fconst0 {E : XE} {K : XK} {nL N cells slots : Nat} {G : GW} {pc : Nat} {L : List (Nat × Value)} {st : List Value} {cc : ByteArray} {own : String} {ret : Option FieldType} {fr lo mc ms : Nat} (C : XC E K cc nL own ret fr lo mc ms) (hd : decode cc pc = .ok (.fconst 0, 1)) (k : XW E K nL N cells slots G (pc + 1) L (.float FP.fconst0 :: st)) : XW E K nL N cells slots G pc L st := by
  obtain ⟨p, l, e, R, s, m, args, below, meth, c, Q⟩ := K
  obtain ⟨hx, hb, hml, hown, hts, hr, hlk, hK, hB, hNw, hR⟩ := C
  intro H locs ls h1 h2 h3 h4
  exact lv_fconst0 hx hb hd (k H locs ls h1 h2 h3 h4)
theorem x_fconst1 {E : XE} {K : XK} {nL N cells slots : Nat} {G : GW} {pc : Nat} {L : List (Nat × Value)} {st : List Value} {cc : ByteArray} {own : String} {ret : Option FieldType} {fr lo mc ms : Nat} (C : XC E K cc nL own ret fr lo mc ms) (hd : decode cc pc = .ok (.fconst 1, 1)) (k : XW E K nL N cells slots G (pc + 1) L (.float FP.fconst1 :: st)) : XW E K nL N cells slots G pc L st := by
  obtain ⟨p, l, e, R, s, m, args, below, meth, c, Q⟩ := K
  obtain ⟨hx, hb, hml, hown, hts, hr, hlk, hK, hB, hNw, hR⟩ := C
  intro H locs ls h1 h2 h3 h4
  exact lv_fconst1 hx hb hd (k H locs ls h1 h2 h3 h4)
theorem x_fconst2 {E : XE} {K : XK} {nL N cells slots : Nat} {G : GW} {pc : Nat} {L : List (Nat × Value)} {st : List Value} {cc : ByteArray} {own : String} {ret : Option FieldType} {fr lo mc ms : Nat} (C : XC E K cc nL own ret fr lo mc ms) (hd : decode cc pc = .ok (.fconst 2, 1)) (k : XW E K nL N cells slots G (pc + 1) L (.float FP.fconst2 :: st)) : XW E K nL N cells slots G pc L st := by
  obtain ⟨p, l, e, R, s, m, args, below, meth, c, Q⟩ := K
  obtain ⟨hx, hb, hml, hown, hts, hr, hlk, hK, hB, hNw, hR⟩ := C
  intro H locs ls h1 h2 h3 h4
  exact lv_fconst2 hx hb hd (k H locs ls h1 h2 h3 h4)
theorem x_fsub {E : XE} {K : XK} {nL N cells slots : Nat} {G : GW} {pc : Nat} {L : List (Nat × Value)} {st : List Value} {cc : ByteArray} {own : String} {ret : Option FieldType} {fr lo mc ms : Nat} (C : XC E K cc nL own ret fr lo mc ms) {x y : UInt32} (hd : decode cc pc = .ok (.fsub, 1)) (hne : vf_n32 (FP.fsub x y)) (k : XW E K nL N cells slots G (pc + 1) L (.float (FP.fsub x y) :: st)) : XW E K nL N cells slots G pc L (.float y :: .float x :: st) := by
  obtain ⟨p, l, e, R, s, m, args, below, meth, c, Q⟩ := K
  obtain ⟨hx, hb, hml, hown, hts, hr, hlk, hK, hB, hNw, hR⟩ := C
  intro H locs ls h1 h2 h3 h4
  exact lv_fsub hx hb hd hne (k H locs ls h1 h2 h3 h4)
theorem x_fmul {E : XE} {K : XK} {nL N cells slots : Nat} {G : GW} {pc : Nat} {L : List (Nat × Value)} {st : List Value} {cc : ByteArray} {own : String} {ret : Option FieldType} {fr lo mc ms : Nat} (C : XC E K cc nL own ret fr lo mc ms) {x y : UInt32} (hd : decode cc pc = .ok (.fmul, 1)) (hne : vf_n32 (FP.fmul x y)) (k : XW E K nL N cells slots G (pc + 1) L (.float (FP.fmul x y) :: st)) : XW E K nL N cells slots G pc L (.float y :: .float x :: st) := by
  obtain ⟨p, l, e, R, s, m, args, below, meth, c, Q⟩ := K
  obtain ⟨hx, hb, hml, hown, hts, hr, hlk, hK, hB, hNw, hR⟩ := C
  intro H locs ls h1 h2 h3 h4
  exact lv_fmul hx hb hd hne (k H locs ls h1 h2 h3 h4)
theorem x_fdiv {E : XE} {K : XK} {nL N cells slots : Nat} {G : GW} {pc : Nat} {L : List (Nat × Value)} {st : List Value} {cc : ByteArray} {own : String} {ret : Option FieldType} {fr lo mc ms : Nat} (C : XC E K cc nL own ret fr lo mc ms) {x y : UInt32} (hd : decode cc pc = .ok (.fdiv, 1)) (hne : vf_n32 (FP.fdiv x y)) (k : XW E K nL N cells slots G (pc + 1) L (.float (FP.fdiv x y) :: st)) : XW E K nL N cells slots G pc L (.float y :: .float x :: st) := by
  obtain ⟨p, l, e, R, s, m, args, below, meth, c, Q⟩ := K
  obtain ⟨hx, hb, hml, hown, hts, hr, hlk, hK, hB, hNw, hR⟩ := C
  intro H locs ls h1 h2 h3 h4
  exact lv_fdiv hx hb hd hne (k H locs ls h1 h2 h3 h4)
theorem x_fcmp {E : XE} {K : XK} {nL N cells slots : Nat} {G : GW} {pc : Nat} {L : List (Nat × Value)} {st : List Value} {cc : ByteArray} {own : String} {ret : Option FieldType} {fr lo mc ms : Nat} (C : XC E K cc nL own ret fr lo mc ms) {x y : UInt32} {op : CmpOp} (hd : decode cc pc = .ok (.fcmp op, 1)) (k : XW E K nL N cells slots G (pc + 1) L (.int (Op.cmpValue (FP.fcmp x y) op) :: st)) : XW E K nL N cells slots G pc L (.float y :: .float x :: st) := by
  obtain ⟨p, l, e, R, s, m, args, below, meth, c, Q⟩ := K
  obtain ⟨hx, hb, hml, hown, hts, hr, hlk, hK, hB, hNw, hR⟩ := C
  intro H locs ls h1 h2 h3 h4
  exact lv_fcmp hx hb hd (k H locs ls h1 h2 h3 h4)
theorem x_i2f {E : XE} {K : XK} {nL N cells slots : Nat} {G : GW} {pc : Nat} {L : List (Nat × Value)} {st : List Value} {cc : ByteArray} {own : String} {ret : Option FieldType} {fr lo mc ms : Nat} (C : XC E K cc nL own ret fr lo mc ms) {x : Int32} (hd : decode cc pc = .ok (.i2f, 1)) (k : XW E K nL N cells slots G (pc + 1) L (.float (FP.i2f x) :: st)) : XW E K nL N cells slots G pc L (.int x :: st) := by
  obtain ⟨p, l, e, R, s, m, args, below, meth, c, Q⟩ := K
  obtain ⟨hx, hb, hml, hown, hts, hr, hlk, hK, hB, hNw, hR⟩ := C
  intro H locs ls h1 h2 h3 h4
  exact lv_i2f hx hb hd (k H locs ls h1 h2 h3 h4)
theorem x_l2f {E : XE} {K : XK} {nL N cells slots : Nat} {G : GW} {pc : Nat} {L : List (Nat × Value)} {st : List Value} {cc : ByteArray} {own : String} {ret : Option FieldType} {fr lo mc ms : Nat} (C : XC E K cc nL own ret fr lo mc ms) {x : Int64} (hd : decode cc pc = .ok (.l2f, 1)) (k : XW E K nL N cells slots G (pc + 1) L (.float (FP.l2f x) :: st)) : XW E K nL N cells slots G pc L (.long x :: st) := by
  obtain ⟨p, l, e, R, s, m, args, below, meth, c, Q⟩ := K
  obtain ⟨hx, hb, hml, hown, hts, hr, hlk, hK, hB, hNw, hR⟩ := C
  intro H locs ls h1 h2 h3 h4
  exact lv_l2f hx hb hd (k H locs ls h1 h2 h3 h4)
theorem x_f2i {E : XE} {K : XK} {nL N cells slots : Nat} {G : GW} {pc : Nat} {L : List (Nat × Value)} {st : List Value} {cc : ByteArray} {own : String} {ret : Option FieldType} {fr lo mc ms : Nat} (C : XC E K cc nL own ret fr lo mc ms) {x : UInt32} (hd : decode cc pc = .ok (.f2i, 1)) (k : XW E K nL N cells slots G (pc + 1) L (.int (FP.f2i x) :: st)) : XW E K nL N cells slots G pc L (.float x :: st) := by
  obtain ⟨p, l, e, R, s, m, args, below, meth, c, Q⟩ := K
  obtain ⟨hx, hb, hml, hown, hts, hr, hlk, hK, hB, hNw, hR⟩ := C
  intro H locs ls h1 h2 h3 h4
  exact lv_f2i hx hb hd (k H locs ls h1 h2 h3 h4)
end
section
theorem x_size {p : Program} {l : Launch} {e : Env} {R : Room} {s : State} {m : MethodId} {args : Array Value} {below : List Frame} {meth : Method} {c : Code} {T : State} {locs : List Loc} {cells slots : Nat} {E : XE} {N : Nat} {G : GW} {H : Heap} (X : Stand p l e R s m args below meth c T locs cells slots) (hT : T.heap = H) (h1 : s.heap.size + cells = N) (hB : xB E ≤ s.heap.size) (h2 : va_P E.1 vwCl (wl E N G) H) : H.size = N := by
  have h3 : T.heap.size ≤ s.heap.size + cells := X.same.2.2.1
  have h4 : s.heap.size ≤ T.heap.size := X.same.2.1
  rw [hT] at h3 h4
  by_cases h5 : N = xB E
  · omega
  · have h6 := (h2 (N - 1 - xB E) _ (wl_get (E := E) (N := N) (G := G) (a := N - 1) (by omega) (by omega))).lt
    have h7 : N - 1 < H.size := h6
    omega
theorem x_grow {E : XE} {N : Nat} {G : GW} {e : va_E} {H H1 : Heap} (hB : xB E ≤ N) (hz : H.size = N) (h2 : va_P E.1 vwCl (wl E N G) H) (o1 : ∀ q, q < N → H1[q]? = H[q]?) (hn : va_at E.1 vwCl (N, e) H1) : va_P E.1 vwCl (wl E (N + 1) (gup G N e)) H1 := by
  rw [← wl_push hB]
  refine (h2.kept fun k x hx => o1 x.1 (by have := (h2 k x hx).lt; omega)).app (fun k x hx => ?_)
  have hz2 : k < 1 := (List.getElem?_eq_some_iff.mp hx).1
  rw [show k = 0 by omega] at hx
  cases hx
  exact hn
theorem x_growS {A : Nat → Prop} {H0 H H1 : Heap} {locs : List Loc} {N : Nat} (hS : va_S A H0 H locs) (hz : H.size = N) (z1 : H1.size = N + 1) (o1 : ∀ q, q < N → H1[q]? = H[q]?) : va_S A H0 H1 locs :=
  ⟨Nat.le_trans hS.1 (by omega), fun x q1 q2 => (o1 x (by have := hS.1; omega)).trans (hS.2.1 x q1 q2), hS.2.2⟩
theorem x_iret {E : XE} {K : XK} {nL N cells slots : Nat} {G : GW} {pc : Nat} {L : List (Nat × Value)} {cc : ByteArray} {own : String} {ret : Option FieldType} {fr lo mc ms : Nat} (C : XC E K cc nL own ret fr lo mc ms) {res : Option Value} {Gf : GW} (Z : XZ E K N cells slots res Gf) {v : Int32} {ty : FieldType} (hty : ret = some ty) (hn : narrow ty (.int v) = .int v) (e1 : res = some (.int v)) (e2 : Gf = G) (hd : decode cc pc = .ok (.ireturn, 1)) : XW E K nL N cells slots G pc L [.int v] := by
  subst e1; subst e2
  obtain ⟨p, l, e, R, s, m, args, below, meth, c, Q⟩ := K
  obtain ⟨hx, hb, hml, hown, hts, hr, hlk, hK, hB, hNw, hR⟩ := C
  intro H locs ls h1 h2 h3 h4
  intro T hT X
  have hz := x_size X hT h1 hB h2
  obtain ⟨t9, a9, b9⟩ := W.zret hx hb (hr.trans hty) hn (Qc := XQ E N (some (.int v)) Gf) (free := fun q => xB E ≤ q) (fun t ht hW => ⟨rfl, by rw [ht]; exact hz, by rw [ht]; exact h2, h3.F ht⟩) h3.2.2 hd hlk T hT X
  exact ⟨t9, a9, Eq.mpr (congrFun Z t9) b9⟩
theorem x_vret {E : XE} {K : XK} {nL N cells slots : Nat} {G : GW} {pc : Nat} {L : List (Nat × Value)} {cc : ByteArray} {own : String} {ret : Option FieldType} {fr lo mc ms : Nat} (C : XC E K cc nL own ret fr lo mc ms) {res : Option Value} {Gf : GW} (Z : XZ E K N cells slots res Gf) (hty : ret = none) (e1 : res = none) (e2 : Gf = G) (hd : decode cc pc = .ok (.return_, 1)) : XW E K nL N cells slots G pc L [] := by
  subst e1; subst e2
  obtain ⟨p, l, e, R, s, m, args, below, meth, c, Q⟩ := K
  obtain ⟨hx, hb, hml, hown, hts, hr, hlk, hK, hB, hNw, hR⟩ := C
  intro H locs ls h1 h2 h3 h4
  intro T hT X
  have hz := x_size X hT h1 hB h2
  obtain ⟨t9, a9, b9⟩ := W.vret hx hb (hr.trans hty) (Qc := XQ E N (none) Gf) (free := fun q => xB E ≤ q) (fun t ht hW => ⟨rfl, by rw [ht]; exact hz, by rw [ht]; exact h2, h3.F ht⟩) h3.2.2 hd hlk T hT X
  exact ⟨t9, a9, Eq.mpr (congrFun Z t9) b9⟩
theorem x_aret {E : XE} {K : XK} {nL N cells slots : Nat} {G : GW} {pc : Nat} {L : List (Nat × Value)} {cc : ByteArray} {own : String} {ret : Option FieldType} {fr lo mc ms : Nat} (C : XC E K cc nL own ret fr lo mc ms) {res : Option Value} {Gf : GW} (Z : XZ E K N cells slots res Gf) {a : Nat} {rt : String} (hty : ret = some (.object rt)) (e1 : res = some (.ref a)) (e2 : Gf = G) (hd : decode cc pc = .ok (.areturn, 1)) : XW E K nL N cells slots G pc L [.ref a] := by
  subst e1; subst e2
  obtain ⟨p, l, e, R, s, m, args, below, meth, c, Q⟩ := K
  obtain ⟨hx, hb, hml, hown, hts, hr, hlk, hK, hB, hNw, hR⟩ := C
  intro H locs ls h1 h2 h3 h4
  intro T hT X
  have hz := x_size X hT h1 hB h2
  obtain ⟨t9, a9, b9⟩ := W.aret hx hb (hr.trans hty) (Or.inl ⟨_, rfl⟩) (Or.inr ⟨_, rfl⟩) (Qc := XQ E N (some (.ref a)) Gf) (free := fun q => xB E ≤ q) (fun t ht hW => ⟨rfl, by rw [ht]; exact hz, by rw [ht]; exact h2, h3.F ht⟩) h3.2.2 hd hlk T hT X
  exact ⟨t9, a9, Eq.mpr (congrFun Z t9) b9⟩
theorem x_new {E : XE} {K : XK} {nL N cells slots : Nat} {G : GW} {pc : Nat} {L : List (Nat × Value)} {st : List Value} {cc : ByteArray} {own : String} {ret : Option FieldType} {fr lo mc ms : Nat} (C : XC E K cc nL own ret fr lo mc ms) {index ci n : Nat} {C1 : String} {T1 : u_T} {tyf : Nat → FieldType} {G' : GW} (fs : List Value) (hc : vwCl[ci]? = some (C1, T1, n)) (hin : ∀ w ∈ u_ws C1 T1 n, w ∈ LW) (hT1 : XT C1 T1 n tyf) (w1 : Cond.classLink own index C1 ∈ LW) (w2 : Cond.instantiable C1 n ∈ LW) (w3 : Cond.initialized C1 ∈ LW) (hfs : ∀ j, j < n → defaultValue (tyf j) = vp_V fs j) (hcl : Nat.ble (cells + 1) mc = true) (hsl : Nat.ble (slots + n) ms = true) (hG : gup G N (.inr (ci, fs)) = G') (hd : decode cc pc = .ok (.new index, 3)) (k : XW E K nL (N + 1) (cells + 1) (slots + n) G' (pc + 3) L (.ref N :: st)) : XW E K nL N cells slots G pc L st := by
  subst hG
  obtain ⟨p, l, e, R, s, m, args, below, meth, c, Q⟩ := K
  obtain ⟨hx, hb, hml, hown, hts, hr, hlk, hK, hB, hNw, hR⟩ := C
  subst hR
  intro H locs ls h1 h2 h3 h4 T hT X
  have hz : H.size = N := x_size X hT h1 hB h2
  have h1' : s.heap.size + cells = N := h1
  have hB' : xB E ≤ s.heap.size := hB
  have hBN : xB E ≤ N := by omega
  have h1'' : s.heap.size + (cells + 1) = N + 1 := by omega
  have hKn := hK.1 ci _ hc
  have key : W p l e { frames := fr, cells := mc, slots := ms, locals := lo } s m args below meth c H locs cells slots Q (F0 m pc ls st) := by
    refine W.newcK hx hb hown (hts _ w1) (hts _ w2) (hts _ w3) rfl hd (Nat.le_of_ble_eq_true hcl) (Nat.le_of_ble_eq_true hsl) hKn.2.1 hz (fun H1 kC hkC e1 z1 o1 => ?_)
    exact k H1 locs ls h1'' (x_grow hBN hz h2 o1 ⟨_, hc, (u_born tyf hts hin hKn hkC e1 hT1.1).to hfs⟩) (x_growS h3 hz z1 o1) h4
  exact key T hT X
theorem x_newi {E : XE} {K : XK} {nL N cells slots : Nat} {G : GW} {pc : Nat} {L : List (Nat × Value)} {st : List Value} {cc : ByteArray} {own : String} {ret : Option FieldType} {fr lo mc ms : Nat} (C : XC E K cc nL own ret fr lo mc ms) {n : Int32} {G' : GW} (n1 : Nat) (hn : ¬ n < 0) (hN : n.toNatClampNeg = n1) (hby : Nat.ble (n1 * componentBytes .int) 536870912 = true) (hcl : Nat.ble (cells + 1) mc = true) (hsl : Nat.ble (slots + n1) ms = true) (hG : gup G N (.inl (xI E, n1, .inl (fun _ => 0))) = G') (hd : decode cc pc = .ok (.newarray .int, 2)) (k : XW E K nL (N + 1) (cells + 1) (slots + n1) G' (pc + 2) L (.ref N :: st)) : XW E K nL N cells slots G pc L (.int n :: st) := by
  subst hG
  obtain ⟨p, l, e, R, s, m, args, below, meth, c, Q⟩ := K
  obtain ⟨hx, hb, hml, hown, hts, hr, hlk, hK, hB, hNw, hR⟩ := C
  subst hR
  intro H locs ls h1 h2 h3 h4 T hT X
  have hz : H.size = N := x_size X hT h1 hB h2
  have h1' : s.heap.size + cells = N := h1
  have hB' : xB E ≤ s.heap.size := hB
  have hBN : xB E ≤ N := by omega
  have h1'' : s.heap.size + (cells + 1) = N + 1 := by omega
  have hRA : s.vm.findClass ("[" ++ (FieldType.int).toString) = some (xI E) := (hK.2 0 _ rfl).2
  have key : W p l e { frames := fr, cells := mc, slots := ms, locals := lo } s m args below meth c H locs cells slots Q (F0 m pc ls (.int n :: st)) := by
    refine va_newaK (atype := .int) hx hb (hts _ x_arr_int) rfl hd rfl hn hN (Nat.le_of_ble_eq_true hby) (Nat.le_of_ble_eq_true hcl) (Nat.le_of_ble_eq_true hsl) hz (fun H1 cA e1 z1 o1 hAr hNm => ?_)
    have hcA : cA = xI E := Option.some.inj (hNm.symm.trans hRA)
    subst hcA
    exact k H1 locs ls h1'' (x_grow hBN hz h2 o1 e1) (x_growS h3 hz z1 o1) h4
  exact key T hT X
theorem x_newl {E : XE} {K : XK} {nL N cells slots : Nat} {G : GW} {pc : Nat} {L : List (Nat × Value)} {st : List Value} {cc : ByteArray} {own : String} {ret : Option FieldType} {fr lo mc ms : Nat} (C : XC E K cc nL own ret fr lo mc ms) {n : Int32} {G' : GW} (n1 : Nat) (hn : ¬ n < 0) (hN : n.toNatClampNeg = n1) (hby : Nat.ble (n1 * componentBytes .long) 536870912 = true) (hcl : Nat.ble (cells + 1) mc = true) (hsl : Nat.ble (slots + n1) ms = true) (hG : gup G N (.inl (xJ E, n1, .inr (.inl (fun _ => 0)))) = G') (hd : decode cc pc = .ok (.newarray .long, 2)) (k : XW E K nL (N + 1) (cells + 1) (slots + n1) G' (pc + 2) L (.ref N :: st)) : XW E K nL N cells slots G pc L (.int n :: st) := by
  subst hG
  obtain ⟨p, l, e, R, s, m, args, below, meth, c, Q⟩ := K
  obtain ⟨hx, hb, hml, hown, hts, hr, hlk, hK, hB, hNw, hR⟩ := C
  subst hR
  intro H locs ls h1 h2 h3 h4 T hT X
  have hz : H.size = N := x_size X hT h1 hB h2
  have h1' : s.heap.size + cells = N := h1
  have hB' : xB E ≤ s.heap.size := hB
  have hBN : xB E ≤ N := by omega
  have h1'' : s.heap.size + (cells + 1) = N + 1 := by omega
  have hRA : s.vm.findClass ("[" ++ (FieldType.long).toString) = some (xJ E) := (hK.2 1 _ rfl).2
  have key : W p l e { frames := fr, cells := mc, slots := ms, locals := lo } s m args below meth c H locs cells slots Q (F0 m pc ls (.int n :: st)) := by
    refine va_newaK (atype := .long) hx hb (hts _ x_arr_long) rfl hd rfl hn hN (Nat.le_of_ble_eq_true hby) (Nat.le_of_ble_eq_true hcl) (Nat.le_of_ble_eq_true hsl) hz (fun H1 cA e1 z1 o1 hAr hNm => ?_)
    have hcA : cA = xJ E := Option.some.inj (hNm.symm.trans hRA)
    subst hcA
    exact k H1 locs ls h1'' (x_grow hBN hz h2 o1 e1) (x_growS h3 hz z1 o1) h4
  exact key T hT X
theorem x_newch {E : XE} {K : XK} {nL N cells slots : Nat} {G : GW} {pc : Nat} {L : List (Nat × Value)} {st : List Value} {cc : ByteArray} {own : String} {ret : Option FieldType} {fr lo mc ms : Nat} (C : XC E K cc nL own ret fr lo mc ms) {n : Int32} {G' : GW} (n1 : Nat) (hn : ¬ n < 0) (hN : n.toNatClampNeg = n1) (hby : Nat.ble (n1 * componentBytes .char) 536870912 = true) (hcl : Nat.ble (cells + 1) mc = true) (hsl : Nat.ble (slots + n1) ms = true) (hG : gup G N (.inl (xCh E, n1, .inl (fun _ => 0))) = G') (hd : decode cc pc = .ok (.newarray .char, 2)) (k : XW E K nL (N + 1) (cells + 1) (slots + n1) G' (pc + 2) L (.ref N :: st)) : XW E K nL N cells slots G pc L (.int n :: st) := by
  subst hG
  obtain ⟨p, l, e, R, s, m, args, below, meth, c, Q⟩ := K
  obtain ⟨hx, hb, hml, hown, hts, hr, hlk, hK, hB, hNw, hR⟩ := C
  subst hR
  intro H locs ls h1 h2 h3 h4 T hT X
  have hz : H.size = N := x_size X hT h1 hB h2
  have h1' : s.heap.size + cells = N := h1
  have hB' : xB E ≤ s.heap.size := hB
  have hBN : xB E ≤ N := by omega
  have h1'' : s.heap.size + (cells + 1) = N + 1 := by omega
  have hRA : s.vm.findClass ("[" ++ (FieldType.char).toString) = some (xCh E) := (hK.2 2 _ rfl).2
  have key : W p l e { frames := fr, cells := mc, slots := ms, locals := lo } s m args below meth c H locs cells slots Q (F0 m pc ls (.int n :: st)) := by
    refine va_newaK (atype := .char) hx hb (hts _ x_arr_char) rfl hd rfl hn hN (Nat.le_of_ble_eq_true hby) (Nat.le_of_ble_eq_true hcl) (Nat.le_of_ble_eq_true hsl) hz (fun H1 cA e1 z1 o1 hAr hNm => ?_)
    have hcA : cA = xCh E := Option.some.inj (hNm.symm.trans hRA)
    subst hcA
    exact k H1 locs ls h1'' (x_grow hBN hz h2 o1 e1) (x_growS h3 hz z1 o1) h4
  exact key T hT X
theorem x_newq {E : XE} {K : XK} {nL N cells slots : Nat} {G : GW} {pc : Nat} {L : List (Nat × Value)} {st : List Value} {cc : ByteArray} {own : String} {ret : Option FieldType} {fr lo mc ms : Nat} (C : XC E K cc nL own ret fr lo mc ms) {index : Nat} {n : Int32} {G' : GW} (n1 : Nat) (w1 : Cond.classLink own index "SharedEchoes$State" ∈ LW) (hn : ¬ n < 0) (hN : n.toNatClampNeg = n1) (hby : Nat.ble (n1 * 4) 536870912 = true) (hcl : Nat.ble (cells + 1) mc = true) (hsl : Nat.ble (slots + n1) ms = true) (hG : gup G N (.inl (xQ E, n1, .inr (.inr (.inr (.inr (fun _ => none)))))) = G') (hd : decode cc pc = .ok (.anewarray index, 3)) (k : XW E K nL (N + 1) (cells + 1) (slots + n1) G' (pc + 3) L (.ref N :: st)) : XW E K nL N cells slots G pc L (.int n :: st) := by
  subst hG
  obtain ⟨p, l, e, R, s, m, args, below, meth, c, Q⟩ := K
  obtain ⟨hx, hb, hml, hown, hts, hr, hlk, hK, hB, hNw, hR⟩ := C
  subst hR
  intro H locs ls h1 h2 h3 h4 T hT X
  have hz : H.size = N := x_size X hT h1 hB h2
  have h1' : s.heap.size + cells = N := h1
  have hB' : xB E ≤ s.heap.size := hB
  have hBN : xB E ≤ N := by omega
  have h1'' : s.heap.size + (cells + 1) = N + 1 := by omega
  subst hN
  have key : W p l e { frames := fr, cells := mc, slots := ms, locals := lo } s m args below meth c H locs cells slots Q (F0 m pc ls (.int n :: st)) := by
    refine W.anew hx hb hown (hts _ w1) (va_AO.use hNw.2) rfl hd rfl hn (Nat.le_of_ble_eq_true hby) (Nat.le_of_ble_eq_true hcl) (Nat.le_of_ble_eq_true hsl) (fun cA kA comp f1 f2 f3 f4 => ?_)
    obtain ⟨kA2, comp2, g1, g2, g3, g4⟩ := (hK.2 3 _ rfl).2
    have hcA : cA = xQ E := Option.some.inj (f1.symm.trans g4)
    subst hcA
    generalize hH1 : H.push ({ cls := xQ E, slots := Array.replicate n.toNatClampNeg .null, vm := .none } : Cell) = H1
    have z1 : H1.size = N + 1 := by rw [← hH1, Array.size_push, hz]
    have e1 : H1[N]? = some (arrV (xQ E) n.toNatClampNeg (fun _ => .null)) := by rw [← hH1, ← hz, Array.getElem?_push_size, ← arrV_new]
    have o1 : ∀ q : Nat, q < N → H1[q]? = H[q]? := fun q hq => by rw [← hH1, Array.getElem?_push, if_neg (by omega)]
    rw [hz]
    exact k H1 locs ls h1'' (x_grow hBN hz h2 o1 e1) (x_growS h3 hz z1 o1) h4
  exact key T hT X
theorem x_pre {E : XE} {N : Nat} {G : GW} (As : List Value) : FrameBlind (va_Pc As (XPre E N G)) := fun a U g mk q => ⟨q.1, q.2.1, q.2.2.1, q.2.2.2.1.calling, q.2.2.2.2.1, va_K.moved (u := U) (U := U.calling g mk a) (Vm.Alike.refl U.vm) q.2.2.2.2.2⟩
theorem x_run {E : XE} {K : XK} {nL N cells slots : Nat} {G G' : GW} {pc : Nat} {L : List (Nat × Value)} {st0 rest : List Value} {mc' ms' : Nat} {res : Option Value} {a : Array Value} (hB : xB E ≤ K.2.2.2.2.1.heap.size)
    (hr : ∀ (H : Heap) (locs : List Loc) (ls : Array Slot), H.size = N → va_P E.1 vwCl (wl E N G) H → lv_has ls nL L → va_Run K.1 K.2.1 K.2.2.1 K.2.2.2.1 K.2.2.2.2.1 K.2.2.2.2.2.1 K.2.2.2.2.2.2.1 K.2.2.2.2.2.2.2.1 K.2.2.2.2.2.2.2.2.1 K.2.2.2.2.2.2.2.2.2.1 H locs cells slots mc' ms' (F0 K.2.2.2.2.2.1 pc ls st0) rest (XQ E (N + mc') res G' a) (fun q => xB E ≤ q))
    (k : XW E K nL (N + mc') (cells + mc') (slots + ms') G' (pc + 3) L (res.toList ++ rest)) : XW E K nL N cells slots G pc L st0 := by
  obtain ⟨p, l, e, R, s, m, args, below, meth, c, Q⟩ := K
  intro H locs ls h1 h2 h3 h4 T hT X
  have hz : H.size = N := x_size X hT h1 hB h2
  obtain ⟨v, st₀, t, T', L', h0, X', hL, e1, e2, ⟨q1, q2, q3, q4, q5⟩, hgo⟩ := hr H locs ls hz h2 h4 T hT X
  cases q1
  rw [h0] at q4 q5
  have h3' : va_S (fun q => xB E ≤ q) s.heap T'.heap (locs ++ L') := ⟨Nat.le_trans h3.1 (by rw [e1]; exact q4), fun q w1 w2 => by rw [e1, q5 q (Nat.lt_of_lt_of_le w1 h3.1) w2]; exact h3.2.1 q w1 w2, fun q hq => by
    rcases List.mem_append.mp hq with h | h
    · exact h3.2.2 q h
    · exact hL q h⟩
  have h1' : s.heap.size + cells = N := h1
  obtain ⟨t2, a1, b1⟩ := k T'.heap (locs ++ L') ls (by show s.heap.size + (cells + mc') = N + mc'; omega) (by rw [e1]; exact q3) h3' h4 T' rfl X'
  exact ⟨t2, hgo t2 a1, b1⟩
/-- a link to a method of one's own class or another: class own names at index the method y, whose code is bytes, of n parameters -/
def XV (own : String) (index : Nat) (y : MethodName) (bytes : ByteArray) (maxL : Nat) (ret : Option FieldType) (n : Nat) : Prop :=
  Cond.methodLink own index y ∈ LW ∧ Cond.instanceMethod y ∈ LW ∧ Cond.selects y.cls y y ∈ LW ∧ Cond.initialized y.cls ∈ LW ∧ Cond.code y bytes maxL ret ∈ LW ∧ y.cls ≠ "java/lang/invoke/MethodHandle" ∧ y.cls ≠ "java/lang/invoke/VarHandle" ∧ (parseMethodDescriptor y.desc).map (fun d => d.parameters.length) = some n
def XS (own : String) (index : Nat) (y : MethodName) (bytes : ByteArray) (maxL : Nat) (ret : Option FieldType) (n : Nat) : Prop :=
  Cond.methodLink own index y ∈ LW ∧ Cond.static y ∈ LW ∧ Cond.initialized y.cls ∈ LW ∧ Cond.code y bytes maxL ret ∈ LW ∧ y.cls ≠ "java/lang/invoke/MethodHandle" ∧ y.cls ≠ "java/lang/invoke/VarHandle" ∧ (parseMethodDescriptor y.desc).map (fun d => d.parameters.length) = some n
def XI (own : String) (index : Nat) (y : MethodName) (bytes : ByteArray) (maxL : Nat) (n : Nat) : Prop :=
  Cond.methodLink own index y ∈ LW ∧ Cond.instanceMethod y ∈ LW ∧ Cond.initialized y.cls ∈ LW ∧ Cond.code y bytes maxL none ∈ LW ∧ y.name = "<init>" ∧ y.cls ≠ "java/lang/invoke/MethodHandle" ∧ y.cls ≠ "java/lang/invoke/VarHandle" ∧ (parseMethodDescriptor y.desc).map (fun d => d.parameters.length) = some n
/-- the same of a private member of a nest mate -/
def XSN (own : String) (index : Nat) (y : MethodName) (host : String) (bytes : ByteArray) (maxL : Nat) (ret : Option FieldType) (n : Nat) : Prop :=
  Cond.methodLinkNest own index y host ∈ NW ∧ Cond.static y ∈ LW ∧ Cond.initialized y.cls ∈ LW ∧ Cond.code y bytes maxL ret ∈ LW ∧ y.cls ≠ "java/lang/invoke/MethodHandle" ∧ y.cls ≠ "java/lang/invoke/VarHandle" ∧ (parseMethodDescriptor y.desc).map (fun d => d.parameters.length) = some n
def XIN (own : String) (index : Nat) (y : MethodName) (host : String) (bytes : ByteArray) (maxL : Nat) (n : Nat) : Prop :=
  Cond.methodLinkNest own index y host ∈ NW ∧ Cond.instanceMethod y ∈ LW ∧ Cond.initialized y.cls ∈ LW ∧ Cond.code y bytes maxL none ∈ LW ∧ y.name = "<init>" ∧ y.cls ≠ "java/lang/invoke/MethodHandle" ∧ y.cls ≠ "java/lang/invoke/VarHandle" ∧ (parseMethodDescriptor y.desc).map (fun d => d.parameters.length) = some n
theorem x_good {y : MethodName} {bytes : ByteArray} {maxL : Nat} {ret : Option FieldType} (h : Cond.code y bytes maxL ret ∈ LW) : GoodIn LW (Cond.code y bytes maxL ret :: LW) := fun w hw => by
  rcases List.mem_cons.mp hw with rfl | h2
  · exact LW_good _ h
  · exact LW_good w h2
def XR (fr lo mc ms cells slots fr' lo' maxL' mc' ms' : Nat) : Bool := Nat.ble (fr' + 1) fr && Nat.ble (8 + (maxL' + 11) + lo') lo && Nat.ble (cells + mc') mc && Nat.ble (slots + ms') ms
theorem XR.of {fr lo mc ms cells slots fr' lo' maxL' mc' ms' : Nat} (h : XR fr lo mc ms cells slots fr' lo' maxL' mc' ms' = true) : (fr' + 1 ≤ fr ∧ 8 + (maxL' + 11) + lo' ≤ lo) ∧ cells + mc' ≤ mc ∧ slots + ms' ≤ ms := by
  simp only [XR, Bool.and_eq_true] at h
  exact ⟨⟨Nat.le_of_ble_eq_true h.1.1.1, Nat.le_of_ble_eq_true h.1.1.2⟩, Nat.le_of_ble_eq_true h.1.2, Nat.le_of_ble_eq_true h.2⟩
theorem x_callV {E : XE} {K : XK} {nL N cells slots : Nat} {G : GW} {pc : Nat} {L : List (Nat × Value)} {st : List Value} {cc : ByteArray} {own : String} {ret : Option FieldType} {fr lo mc ms : Nat} (C : XC E K cc nL own ret fr lo mc ms) {index b ci n n2 : Nat} {y : MethodName} {bytes : ByteArray} {maxL' : Nat} {ret' : Option FieldType} {fr' lo' mc' ms' : Nat} {As : List Value} {G' : GW} {res : Option Value} {st0 : List Value} {fs : List Value} {T1 : u_T} (hM : MF E y bytes maxL' ret' fr' lo' mc' ms' (.ref b :: As) N G res G') (hl : XV own index y bytes maxL' ret' n) (hN : xB E ≤ N) (hb1 : xB E ≤ b) (hb2 : b < N) (he : G b = .inr (ci, fs)) (hc : vwCl[ci]? = some (y.cls, T1, n2)) (hR9 : XR fr lo mc ms cells slots fr' lo' maxL' mc' ms' = true) (hn : As.length = n) (hw : Nat.ble ((st.map fun v => v.category).sum) 8 = true) (hst : st0 = As.reverse ++ .ref b :: st) (hd : decode cc pc = .ok (.invokevirtual index, 3)) (k : XW E K nL (N + mc') (cells + mc') (slots + ms') G' (pc + 3) L (res.toList ++ st)) : XW E K nL N cells slots G pc L st0 := by
  have hR9 := XR.of hR9
  have C0 := C
  obtain ⟨p, l, e, R, s, m, args, below, meth, c, Q⟩ := K
  obtain ⟨hx, hb, hml, hown, hts, hr, hlk, hK, hB, hNw, hR⟩ := C
  subst hR
  refine x_run (a := (Value.ref b :: As).toArray) (rest := st) hB (fun H locs ls h1 h2 h4 => ?_) k
  obtain ⟨w1, w2, w3, w4, w5, w6, w7, w8⟩ := hl
  exact va_runV (nL := nL) (As := As) (rest := st) (C := y.cls) (n := n) (bytes := bytes) (maxL := maxL') (ret := ret') ⟨hx, hb, hml, hown, hts⟩ (hM l) ⟨callB_of n hts (x_good w5) rfl rfl rfl (hts _ w4) (hts _ w1) ⟨w6, w7, w8⟩ hR9.1, hts _ w2, hts _ w3⟩ ⟨x_pre _, va_recv hK h2 hc (by rw [wl_get hb1 hb2, he]), fun U hU hW => ⟨rfl, hN, by rw [hU]; exact h1, hNw.warm hW, by rw [hU]; exact h2, va_K.moved hW.alike hK⟩⟩ rfl hn h4.1 hst (lv_room (Nat.le_of_ble_eq_true hw)) hd hR9.2
theorem x_callS {E : XE} {K : XK} {nL N cells slots : Nat} {G : GW} {pc : Nat} {L : List (Nat × Value)} {st : List Value} {cc : ByteArray} {own : String} {ret : Option FieldType} {fr lo mc ms : Nat} (C : XC E K cc nL own ret fr lo mc ms) {index n : Nat} {y : MethodName} {bytes : ByteArray} {maxL' : Nat} {ret' : Option FieldType} {fr' lo' mc' ms' : Nat} {As : List Value} {G' : GW} {res : Option Value} {st0 : List Value} (hM : MF E y bytes maxL' ret' fr' lo' mc' ms' As N G res G') (hl : XS own index y bytes maxL' ret' n) (hN : xB E ≤ N) (hR9 : XR fr lo mc ms cells slots fr' lo' maxL' mc' ms' = true) (hn : As.length = n) (hw : Nat.ble ((st.map fun v => v.category).sum) 8 = true) (hst : st0 = As.reverse ++ st) (hd : decode cc pc = .ok (.invokestatic index, 3)) (k : XW E K nL (N + mc') (cells + mc') (slots + ms') G' (pc + 3) L (res.toList ++ st)) : XW E K nL N cells slots G pc L st0 := by
  have hR9 := XR.of hR9
  have C0 := C
  obtain ⟨p, l, e, R, s, m, args, below, meth, c, Q⟩ := K
  obtain ⟨hx, hb, hml, hown, hts, hr, hlk, hK, hB, hNw, hR⟩ := C
  subst hR
  refine x_run (a := As.toArray) (rest := st) hB (fun H locs ls h1 h2 h4 => ?_) k
  obtain ⟨w1, w2, w4, w5, w6, w7, w8⟩ := hl
  exact va_runS (nL := nL) (As := As) (rest := st) (n := n) (bytes := bytes) (maxL := maxL') (ret := ret') ⟨hx, hb, hml, hown, hts⟩ (hM l) ⟨callB_of n hts (x_good w5) rfl rfl rfl (hts _ w4) (hts _ w1) ⟨w6, w7, w8⟩ hR9.1, hts _ w2⟩ ⟨x_pre _, fun U hU hW => ⟨rfl, hN, by rw [hU]; exact h1, hNw.warm hW, by rw [hU]; exact h2, va_K.moved hW.alike hK⟩⟩ rfl hn h4.1 hst (lv_room (Nat.le_of_ble_eq_true hw)) hd hR9.2
theorem x_callI {E : XE} {K : XK} {nL N cells slots : Nat} {G : GW} {pc : Nat} {L : List (Nat × Value)} {st : List Value} {cc : ByteArray} {own : String} {ret : Option FieldType} {fr lo mc ms : Nat} (C : XC E K cc nL own ret fr lo mc ms) {index b n : Nat} {y : MethodName} {bytes : ByteArray} {maxL' : Nat} {fr' lo' mc' ms' : Nat} {As : List Value} {G' : GW} {res : Option Value} {st0 : List Value} (hM : MF E y bytes maxL' none fr' lo' mc' ms' (.ref b :: As) N G res G') (hl : XI own index y bytes maxL' n) (hN : xB E ≤ N) (hR9 : XR fr lo mc ms cells slots fr' lo' maxL' mc' ms' = true) (hn : As.length = n) (hw : Nat.ble ((st.map fun v => v.category).sum) 8 = true) (hst : st0 = As.reverse ++ .ref b :: st) (hd : decode cc pc = .ok (.invokespecial index, 3)) (k : XW E K nL (N + mc') (cells + mc') (slots + ms') G' (pc + 3) L (res.toList ++ st)) : XW E K nL N cells slots G pc L st0 := by
  have hR9 := XR.of hR9
  have C0 := C
  obtain ⟨p, l, e, R, s, m, args, below, meth, c, Q⟩ := K
  obtain ⟨hx, hb, hml, hown, hts, hr, hlk, hK, hB, hNw, hR⟩ := C
  subst hR
  refine x_run (a := (Value.ref b :: As).toArray) (rest := st) hB (fun H locs ls h1 h2 h4 => ?_) k
  obtain ⟨w1, w2, w4, w5, w9, w6, w7, w8⟩ := hl
  exact va_runI (nL := nL) (As := As) (rest := st) (n := n) (bytes := bytes) (maxL := maxL') ⟨hx, hb, hml, hown, hts⟩ (hM l) ⟨callB_of n hts (x_good w5) rfl rfl rfl (hts _ w4) (hts _ w1) ⟨w6, w7, w8⟩ hR9.1, w9, hts _ w2⟩ ⟨x_pre _, fun U hU hW => ⟨rfl, hN, by rw [hU]; exact h1, hNw.warm hW, by rw [hU]; exact h2, va_K.moved hW.alike hK⟩⟩ rfl hn h4.1 hst (lv_room (Nat.le_of_ble_eq_true hw)) hd hR9.2
theorem x_callSN {E : XE} {K : XK} {nL N cells slots : Nat} {G : GW} {pc : Nat} {L : List (Nat × Value)} {st : List Value} {cc : ByteArray} {own : String} {ret : Option FieldType} {fr lo mc ms : Nat} (C : XC E K cc nL own ret fr lo mc ms) {index n : Nat} {y : MethodName} {bytes : ByteArray} {maxL' : Nat} {ret' : Option FieldType} {fr' lo' mc' ms' : Nat} {As : List Value} {G' : GW} {res : Option Value} {st0 : List Value} {host : String} (hM : MF E y bytes maxL' ret' fr' lo' mc' ms' As N G res G') (hl : XSN own index y host bytes maxL' ret' n) (hN : xB E ≤ N) (hR9 : XR fr lo mc ms cells slots fr' lo' maxL' mc' ms' = true) (hn : As.length = n) (hw : Nat.ble ((st.map fun v => v.category).sum) 8 = true) (hst : st0 = As.reverse ++ st) (hd : decode cc pc = .ok (.invokestatic index, 3)) (k : XW E K nL (N + mc') (cells + mc') (slots + ms') G' (pc + 3) L (res.toList ++ st)) : XW E K nL N cells slots G pc L st0 := by
  have hR9 := XR.of hR9
  have C0 := C
  obtain ⟨p, l, e, R, s, m, args, below, meth, c, Q⟩ := K
  obtain ⟨hx, hb, hml, hown, hts, hr, hlk, hK, hB, hNw, hR⟩ := C
  subst hR
  refine x_run (a := As.toArray) (rest := st) hB (fun H locs ls h1 h2 h4 => ?_) k
  obtain ⟨w1, w2, w4, w5, w6, w7, w8⟩ := hl
  exact va_runSN (nL := nL) (As := As) (rest := st) (n := n) (bytes := bytes) (maxL := maxL') (ret := ret') ⟨hx, hb, hml, hown, hts⟩ (hM l) ⟨va_cnB (host := host) n hts (x_good w5) rfl rfl rfl (hNw.1 _ w1) (hts _ w4) ⟨w6, w7, w8⟩ hR9.1, hts _ w2, trivial⟩ ⟨x_pre _, fun U hU hW => ⟨rfl, hN, by rw [hU]; exact h1, hNw.warm hW, by rw [hU]; exact h2, va_K.moved hW.alike hK⟩⟩ rfl hn h4.1 hst (lv_room (Nat.le_of_ble_eq_true hw)) hd hR9.2
theorem x_callIN {E : XE} {K : XK} {nL N cells slots : Nat} {G : GW} {pc : Nat} {L : List (Nat × Value)} {st : List Value} {cc : ByteArray} {own : String} {ret : Option FieldType} {fr lo mc ms : Nat} (C : XC E K cc nL own ret fr lo mc ms) {index b n : Nat} {y : MethodName} {bytes : ByteArray} {maxL' : Nat} {fr' lo' mc' ms' : Nat} {As : List Value} {G' : GW} {res : Option Value} {st0 : List Value} {host : String} (hM : MF E y bytes maxL' none fr' lo' mc' ms' (.ref b :: As) N G res G') (hl : XIN own index y host bytes maxL' n) (hN : xB E ≤ N) (hR9 : XR fr lo mc ms cells slots fr' lo' maxL' mc' ms' = true) (hn : As.length = n) (hw : Nat.ble ((st.map fun v => v.category).sum) 8 = true) (hst : st0 = As.reverse ++ .ref b :: st) (hd : decode cc pc = .ok (.invokespecial index, 3)) (k : XW E K nL (N + mc') (cells + mc') (slots + ms') G' (pc + 3) L (res.toList ++ st)) : XW E K nL N cells slots G pc L st0 := by
  have hR9 := XR.of hR9
  have C0 := C
  obtain ⟨p, l, e, R, s, m, args, below, meth, c, Q⟩ := K
  obtain ⟨hx, hb, hml, hown, hts, hr, hlk, hK, hB, hNw, hR⟩ := C
  subst hR
  refine x_run (a := (Value.ref b :: As).toArray) (rest := st) hB (fun H locs ls h1 h2 h4 => ?_) k
  obtain ⟨w1, w2, w4, w5, w9, w6, w7, w8⟩ := hl
  exact va_runIN (nL := nL) (As := As) (rest := st) (n := n) (bytes := bytes) (maxL := maxL') ⟨hx, hb, hml, hown, hts⟩ (hM l) ⟨va_cnB (host := host) n hts (x_good w5) rfl rfl rfl (hNw.1 _ w1) (hts _ w4) ⟨w6, w7, w8⟩ hR9.1, w9, hts _ w2⟩ ⟨x_pre _, fun U hU hW => ⟨rfl, hN, by rw [hU]; exact h1, hNw.warm hW, by rw [hU]; exact h2, va_K.moved hW.alike hK⟩⟩ rfl hn h4.1 hst (lv_room (Nat.le_of_ble_eq_true hw)) hd hR9.2
end
section
/-! ===== overlays: a row of cells laid over a world ===== -/
def ov (b : Nat) (cs : List va_E) (G : GW) : GW := fun q => if b ≤ q then (match cs[q - b]? with | some e => e | none => G q) else G q
theorem ov_at {b i : Nat} {cs : List va_E} {G : GW} {e : va_E} (h : cs[i]? = some e) : ov b cs G (b + i) = e := by
  unfold ov
  rw [if_pos (Nat.le_add_right b i), Nat.add_sub_cancel_left, h]
theorem ov_out {b q n : Nat} {cs : List va_E} {G : GW} (hn : cs.length = n) (h : q < b ∨ b + n ≤ q) : ov b cs G q = G q := by
  unfold ov
  by_cases hq : b ≤ q
  · rw [if_pos hq, List.getElem?_eq_none (by omega)]
  · rw [if_neg hq]
theorem ov_in {b q : Nat} {cs : List va_E} {G : GW} {e : va_E} (hq : b ≤ q) (h : cs[q - b]? = some e) : ov b cs G q = e := by
  unfold ov
  rw [if_pos hq, h]
theorem ov_set {b i : Nat} {cs cs' : List va_E} {G : GW} {e : va_E} (hi : Nat.blt i cs.length = true) (h : cs.set i e = cs') : gup (ov b cs G) (b + i) e = ov b cs' G := by
  have hi := Nat.le_of_ble_eq_true hi
  subst h
  funext q
  by_cases hq : q = b + i
  · subst hq
    rw [ov_at (List.getElem?_set_self hi)]
    simp [gup]
  · show (if q = b + i then e else ov b cs G q) = _
    rw [if_neg hq]
    unfold ov
    by_cases h2 : b ≤ q
    · rw [if_pos h2, if_pos h2, List.getElem?_set_ne (by omega)]
    · rw [if_neg h2, if_neg h2]
theorem ov_push {b N : Nat} {cs cs' : List va_E} {G : GW} {e : va_E} (hN : N = b + cs.length) (h : cs ++ [e] = cs') : gup (ov b cs G) N e = ov b cs' G := by
  subst h
  funext q
  by_cases hq : q = N
  · subst hq
    rw [hN, ov_at (by rw [List.getElem?_append_right (Nat.le_refl _), Nat.sub_self]; rfl)]
    simp [gup]
  · show (if q = N then e else ov b cs G q) = _
    rw [if_neg hq]
    unfold ov
    by_cases h2 : b ≤ q
    · rw [if_pos h2, if_pos h2]
      by_cases h3 : q - b < cs.length
      · rw [List.getElem?_append_left h3]
      · rw [List.getElem?_eq_none (by omega), List.getElem?_eq_none (by simp; omega)]
    · rw [if_neg h2, if_neg h2]
theorem ov_slice {b i n : Nat} {cs sub : List va_E} {G : GW} (h : (cs.drop i).take n = sub) : ov (b + i) sub (ov b cs G) = ov b cs G := by
  funext q
  by_cases hq : b + i ≤ q
  · subst h
    cases hs : ((cs.drop i).take n)[q - (b + i)]? with
    | none =>
      conv => lhs; unfold ov
      rw [if_pos hq, hs]
      rfl
    | some e =>
      have h1 : cs[q - b]? = some e := by
        rw [List.getElem?_take] at hs
        split at hs
        · rw [List.getElem?_drop, show i + (q - (b + i)) = q - b by omega] at hs
          exact hs
        · cases hs
      rw [ov_in hq hs, ov_in (by omega) h1]
  · conv => lhs; unfold ov
    rw [if_neg hq]
    rfl
theorem ov_paste {b i n : Nat} {cs sub cs' : List va_E} {G : GW} (hl : sub.length = n) (hlen : i + n ≤ cs.length) (h : cs.take i ++ (sub ++ cs.drop (i + n)) = cs') : ov (b + i) sub (ov b cs G) = ov b cs' G := by
  subst h
  subst hl
  have ht : (cs.take i).length = i := by rw [List.length_take]; omega
  funext q
  by_cases h1 : b ≤ q
  · by_cases h2 : b + i ≤ q
    · by_cases h3 : q < b + i + sub.length
      · have e1 : sub[q - (b + i)]? = some (sub[q - (b + i)]'(by omega)) := List.getElem?_eq_getElem (by omega)
        rw [ov_in h2 e1, ov_in (e := sub[q - (b + i)]'(by omega)) h1]
        rw [List.getElem?_append_right (by omega), ht, List.getElem?_append_left (by omega), show q - b - i = q - (b + i) by omega]
        exact e1
      · rw [ov_out rfl (by omega)]
        unfold ov
        rw [if_pos h1, if_pos h1]
        rw [List.getElem?_append_right (by omega), ht, List.getElem?_append_right (by omega), List.getElem?_drop, show i + sub.length + (q - b - i - sub.length) = q - b by omega]
    · rw [ov_out rfl (by omega)]
      unfold ov
      rw [if_pos h1, if_pos h1, List.getElem?_append_left (by omega), List.getElem?_take, if_pos (by omega)]
  · rw [ov_out rfl (by omega)]
    unfold ov
    rw [if_neg h1, if_neg h1]
theorem ov_comm {a b n k : Nat} {cs ds : List va_E} {G : GW} (hn : cs.length = n) (hk : ds.length = k) (h : a + n ≤ b ∨ b + k ≤ a) : ov a cs (ov b ds G) = ov b ds (ov a cs G) := by
  funext q
  by_cases h1 : a ≤ q ∧ q < a + n
  · have e1 : cs[q - a]? = some (cs[q - a]'(by omega)) := List.getElem?_eq_getElem (by omega)
    rw [ov_in h1.1 e1, ov_out hk (by omega), ov_in h1.1 e1]
  · rw [ov_out hn (by omega)]
    by_cases h2 : b ≤ q ∧ q < b + k
    · have e1 : ds[q - b]? = some (ds[q - b]'(by omega)) := List.getElem?_eq_getElem (by omega)
      rw [ov_in h2.1 e1, ov_in h2.1 e1]
    · rw [ov_out hk (by omega), ov_out hk (by omega), ov_out hn (by omega)]
theorem ov_ov {b : Nat} {cs ds : List va_E} {G : GW} (h : cs.length = ds.length) : ov b cs (ov b ds G) = ov b cs G := by
  funext q
  by_cases h1 : b ≤ q ∧ q < b + cs.length
  · have e1 : cs[q - b]? = some (cs[q - b]'(by omega)) := List.getElem?_eq_getElem (by omega)
    rw [ov_in h1.1 e1, ov_in h1.1 e1]
  · rw [ov_out rfl (by omega), ov_out rfl (by omega), ov_out rfl (by omega)]
theorem gup_ov {b q n : Nat} {cs : List va_E} {G : GW} {e : va_E} (hn : cs.length = n) (h : q < b ∨ b + n ≤ q) : gup (ov b cs G) q e = ov b cs (gup G q e) := by
  funext z
  by_cases hz : z = q
  · subst hz
    rw [ov_out hn h]
    simp [gup]
  · show (if z = q then e else ov b cs G z) = _
    rw [if_neg hz]
    unfold ov gup
    simp only [if_neg hz]
end
section
/-! links: fields, methods, by the numbers of the constant pools -/
theorem in_X0 : ∀ w ∈ u_ws RX0 TX0 4, w ∈ LW := List.forall_mem_cons.mpr ⟨m_151, List.forall_mem_cons.mpr ⟨m_152, List.forall_mem_cons.mpr ⟨m_153, List.forall_mem_cons.mpr ⟨m_154, fun _ h => absurd h List.not_mem_nil⟩⟩⟩⟩
theorem xt_X0 : XT RX0 TX0 4 tyX0 := ⟨tyX0_ok, nmX0⟩
theorem in_X1 : ∀ w ∈ u_ws RX1 TX1 3, w ∈ LW := List.forall_mem_cons.mpr ⟨m_109, List.forall_mem_cons.mpr ⟨m_110, List.forall_mem_cons.mpr ⟨m_111, fun _ h => absurd h List.not_mem_nil⟩⟩⟩
theorem xt_X1 : XT RX1 TX1 3 tyX1 := ⟨tyX1_ok, nmX1⟩
theorem in_X2 : ∀ w ∈ u_ws RX2 TX2 5, w ∈ LW := List.forall_mem_cons.mpr ⟨m_70, List.forall_mem_cons.mpr ⟨m_71, List.forall_mem_cons.mpr ⟨m_72, List.forall_mem_cons.mpr ⟨m_73, List.forall_mem_cons.mpr ⟨m_74, fun _ h => absurd h List.not_mem_nil⟩⟩⟩⟩⟩
theorem xt_X2 : XT RX2 TX2 5 tyX2 := ⟨tyX2_ok, nmX2⟩
theorem in_X3 : ∀ w ∈ u_ws RX3 TX3 4, w ∈ LW := List.forall_mem_cons.mpr ⟨m_134, List.forall_mem_cons.mpr ⟨m_135, List.forall_mem_cons.mpr ⟨m_136, List.forall_mem_cons.mpr ⟨m_137, fun _ h => absurd h List.not_mem_nil⟩⟩⟩⟩
theorem xt_X3 : XT RX3 TX3 4 tyX3 := ⟨tyX3_ok, nmX3⟩
theorem in_X4 : ∀ w ∈ u_ws RX4 TX4 3, w ∈ LW := List.forall_mem_cons.mpr ⟨m_53, List.forall_mem_cons.mpr ⟨m_54, List.forall_mem_cons.mpr ⟨m_55, fun _ h => absurd h List.not_mem_nil⟩⟩⟩
theorem xt_X4 : XT RX4 TX4 3 tyX4 := ⟨tyX4_ok, nmX4⟩
theorem in_X5 : ∀ w ∈ u_ws RX5 TX5 3, w ∈ LW := List.forall_mem_cons.mpr ⟨m_40, List.forall_mem_cons.mpr ⟨m_41, List.forall_mem_cons.mpr ⟨m_42, fun _ h => absurd h List.not_mem_nil⟩⟩⟩
theorem xt_X5 : XT RX5 TX5 3 tyX5 := ⟨tyX5_ok, nmX5⟩
theorem in_X6 : ∀ w ∈ u_ws RX6 TX6 8, w ∈ LW := List.forall_mem_cons.mpr ⟨m_89, List.forall_mem_cons.mpr ⟨m_90, List.forall_mem_cons.mpr ⟨m_91, List.forall_mem_cons.mpr ⟨m_92, List.forall_mem_cons.mpr ⟨m_93, List.forall_mem_cons.mpr ⟨m_94, List.forall_mem_cons.mpr ⟨m_95, List.forall_mem_cons.mpr ⟨m_96, fun _ h => absurd h List.not_mem_nil⟩⟩⟩⟩⟩⟩⟩⟩
theorem xt_X6 : XT RX6 TX6 8 tyX6 := ⟨tyX6_ok, nmX6⟩
theorem in_X7 : ∀ w ∈ u_ws RX7 TX7 2, w ∈ LW := List.forall_mem_cons.mpr ⟨m_120, List.forall_mem_cons.mpr ⟨m_121, fun _ h => absurd h List.not_mem_nil⟩⟩
theorem xt_X7 : XT RX7 TX7 2 tyX7 := ⟨tyX7_ok, nmX7⟩
theorem in_X8 : ∀ w ∈ u_ws RX8 TX8 6, w ∈ LW := List.forall_mem_cons.mpr ⟨m_161, List.forall_mem_cons.mpr ⟨m_162, List.forall_mem_cons.mpr ⟨m_163, List.forall_mem_cons.mpr ⟨m_164, List.forall_mem_cons.mpr ⟨m_165, List.forall_mem_cons.mpr ⟨m_166, fun _ h => absurd h List.not_mem_nil⟩⟩⟩⟩⟩⟩
theorem xt_X8 : XT RX8 TX8 6 tyX8 := ⟨tyX8_ok, nmX8⟩
theorem in_X9 : ∀ w ∈ u_ws RX9 TX9 9, w ∈ LW := List.forall_mem_cons.mpr ⟨m_536, List.forall_mem_cons.mpr ⟨m_537, List.forall_mem_cons.mpr ⟨m_538, List.forall_mem_cons.mpr ⟨m_539, List.forall_mem_cons.mpr ⟨m_540, List.forall_mem_cons.mpr ⟨m_541, List.forall_mem_cons.mpr ⟨m_542, List.forall_mem_cons.mpr ⟨m_543, List.forall_mem_cons.mpr ⟨m_544, fun _ h => absurd h List.not_mem_nil⟩⟩⟩⟩⟩⟩⟩⟩⟩
theorem xt_X9 : XT RX9 TX9 9 tyX9 := ⟨tyX9_ok, nmX9⟩
theorem f_X5_9 : XF RX5 9 5 0 RX5 TX5 3 := ⟨rfl, by decide, m_35, in_X5⟩
theorem f_X5_19 : XF RX5 19 5 1 RX5 TX5 3 := ⟨rfl, by decide, m_36, in_X5⟩
theorem f_X5_15 : XF RX5 15 5 2 RX5 TX5 3 := ⟨rfl, by decide, m_37, in_X5⟩
theorem f_X6_51 : XF RX6 51 5 2 RX5 TX5 3 := ⟨rfl, by decide, m_38, in_X5⟩
theorem f_X8_109 : XF RX8 109 5 2 RX5 TX5 3 := ⟨rfl, by decide, m_39, in_X5⟩
theorem f_X4_9 : XF RX4 9 4 0 RX4 TX4 3 := ⟨rfl, by decide, m_49, in_X4⟩
theorem f_X4_15 : XF RX4 15 4 1 RX4 TX4 3 := ⟨rfl, by decide, m_50, in_X4⟩
theorem f_X4_19 : XF RX4 19 4 2 RX4 TX4 3 := ⟨rfl, by decide, m_51, in_X4⟩
theorem f_X8_158 : XF RX8 158 4 2 RX4 TX4 3 := ⟨rfl, by decide, m_52, in_X4⟩
theorem f_X2_13 : XF RX2 13 2 0 RX2 TX2 5 := ⟨rfl, by decide, m_61, in_X2⟩
theorem f_X8_132 : XF RX8 132 2 0 RX2 TX2 5 := ⟨rfl, by decide, m_62, in_X2⟩
theorem f_X2_23 : XF RX2 23 2 1 RX2 TX2 5 := ⟨rfl, by decide, m_63, in_X2⟩
theorem f_X8_166 : XF RX8 166 2 1 RX2 TX2 5 := ⟨rfl, by decide, m_64, in_X2⟩
theorem f_X2_30 : XF RX2 30 2 2 RX2 TX2 5 := ⟨rfl, by decide, m_65, in_X2⟩
theorem f_X8_169 : XF RX8 169 2 2 RX2 TX2 5 := ⟨rfl, by decide, m_66, in_X2⟩
theorem f_X2_33 : XF RX2 33 2 3 RX2 TX2 5 := ⟨rfl, by decide, m_67, in_X2⟩
theorem f_X8_172 : XF RX8 172 2 3 RX2 TX2 5 := ⟨rfl, by decide, m_68, in_X2⟩
theorem f_X2_19 : XF RX2 19 2 4 RX2 TX2 5 := ⟨rfl, by decide, m_69, in_X2⟩
theorem f_X6_12 : XF RX6 12 6 0 RX6 TX6 8 := ⟨rfl, by decide, m_75, in_X6⟩
theorem f_X8_105 : XF RX8 105 6 0 RX6 TX6 8 := ⟨rfl, by decide, m_76, in_X6⟩
theorem f_X6_21 : XF RX6 21 6 1 RX6 TX6 8 := ⟨rfl, by decide, m_77, in_X6⟩
theorem f_X8_154 : XF RX8 154 6 1 RX6 TX6 8 := ⟨rfl, by decide, m_78, in_X6⟩
theorem f_X6_28 : XF RX6 28 6 2 RX6 TX6 8 := ⟨rfl, by decide, m_79, in_X6⟩
theorem f_X8_128 : XF RX8 128 6 2 RX6 TX6 8 := ⟨rfl, by decide, m_80, in_X6⟩
theorem f_X6_32 : XF RX6 32 6 3 RX6 TX6 8 := ⟨rfl, by decide, m_81, in_X6⟩
theorem f_X6_36 : XF RX6 36 6 4 RX6 TX6 8 := ⟨rfl, by decide, m_82, in_X6⟩
theorem f_X6_39 : XF RX6 39 6 5 RX6 TX6 8 := ⟨rfl, by decide, m_83, in_X6⟩
theorem f_X8_198 : XF RX8 198 6 5 RX6 TX6 8 := ⟨rfl, by decide, m_84, in_X6⟩
theorem f_X6_67 : XF RX6 67 6 6 RX6 TX6 8 := ⟨rfl, by decide, m_85, in_X6⟩
theorem f_X8_221 : XF RX8 221 6 6 RX6 TX6 8 := ⟨rfl, by decide, m_86, in_X6⟩
theorem f_X6_98 : XF RX6 98 6 7 RX6 TX6 8 := ⟨rfl, by decide, m_87, in_X6⟩
theorem f_X8_216 : XF RX8 216 6 7 RX6 TX6 8 := ⟨rfl, by decide, m_88, in_X6⟩
theorem f_X1_11 : XF RX1 11 1 0 RX1 TX1 3 := ⟨rfl, by decide, m_105, in_X1⟩
theorem f_X1_18 : XF RX1 18 1 1 RX1 TX1 3 := ⟨rfl, by decide, m_106, in_X1⟩
theorem f_X1_28 : XF RX1 28 1 2 RX1 TX1 3 := ⟨rfl, by decide, m_107, in_X1⟩
theorem f_X8_219 : XF RX8 219 1 2 RX1 TX1 3 := ⟨rfl, by decide, m_108, in_X1⟩
theorem f_X7_9 : XF RX7 9 7 0 RX7 TX7 2 := ⟨rfl, by decide, m_117, in_X7⟩
theorem f_X7_15 : XF RX7 15 7 1 RX7 TX7 2 := ⟨rfl, by decide, m_118, in_X7⟩
theorem f_X8_220 : XF RX8 220 7 1 RX7 TX7 2 := ⟨rfl, by decide, m_119, in_X7⟩
theorem f_X3_9 : XF RX3 9 3 0 RX3 TX3 4 := ⟨rfl, by decide, m_127, in_X3⟩
theorem f_X3_21 : XF RX3 21 3 1 RX3 TX3 4 := ⟨rfl, by decide, m_128, in_X3⟩
theorem f_X8_275 : XF RX8 275 3 1 RX3 TX3 4 := ⟨rfl, by decide, m_129, in_X3⟩
theorem f_X3_25 : XF RX3 25 3 2 RX3 TX3 4 := ⟨rfl, by decide, m_130, in_X3⟩
theorem f_X8_254 : XF RX8 254 3 2 RX3 TX3 4 := ⟨rfl, by decide, m_131, in_X3⟩
theorem f_X3_32 : XF RX3 32 3 3 RX3 TX3 4 := ⟨rfl, by decide, m_132, in_X3⟩
theorem f_X8_260 : XF RX8 260 3 3 RX3 TX3 4 := ⟨rfl, by decide, m_133, in_X3⟩
theorem f_X0_7 : XF RX0 7 0 0 RX0 TX0 4 := ⟨rfl, by decide, m_143, in_X0⟩
theorem f_X8_234 : XF RX8 234 0 0 RX0 TX0 4 := ⟨rfl, by decide, m_144, in_X0⟩
theorem f_X0_13 : XF RX0 13 0 1 RX0 TX0 4 := ⟨rfl, by decide, m_145, in_X0⟩
theorem f_X8_238 : XF RX8 238 0 1 RX0 TX0 4 := ⟨rfl, by decide, m_146, in_X0⟩
theorem f_X0_17 : XF RX0 17 0 2 RX0 TX0 4 := ⟨rfl, by decide, m_147, in_X0⟩
theorem f_X8_241 : XF RX8 241 0 2 RX0 TX0 4 := ⟨rfl, by decide, m_148, in_X0⟩
theorem f_X0_20 : XF RX0 20 0 3 RX0 TX0 4 := ⟨rfl, by decide, m_149, in_X0⟩
theorem f_X8_244 : XF RX8 244 0 3 RX0 TX0 4 := ⟨rfl, by decide, m_150, in_X0⟩
theorem f_X8_10 : XF RX8 10 8 0 RX8 TX8 6 := ⟨rfl, by decide, m_155, in_X8⟩
theorem f_X8_16 : XF RX8 16 8 1 RX8 TX8 6 := ⟨rfl, by decide, m_156, in_X8⟩
theorem f_X8_22 : XF RX8 22 8 2 RX8 TX8 6 := ⟨rfl, by decide, m_157, in_X8⟩
theorem f_X8_29 : XF RX8 29 8 3 RX8 TX8 6 := ⟨rfl, by decide, m_158, in_X8⟩
theorem f_X8_36 : XF RX8 36 8 4 RX8 TX8 6 := ⟨rfl, by decide, m_159, in_X8⟩
theorem f_X8_43 : XF RX8 43 8 5 RX8 TX8 6 := ⟨rfl, by decide, m_160, in_X8⟩
theorem f_X9_7 : XF RX9 7 9 0 RX9 TX9 9 := ⟨rfl, by decide, m_527, in_X9⟩
theorem f_X9_13 : XF RX9 13 9 1 RX9 TX9 9 := ⟨rfl, by decide, m_528, in_X9⟩
theorem f_X9_29 : XF RX9 29 9 2 RX9 TX9 9 := ⟨rfl, by decide, m_529, in_X9⟩
theorem f_X9_17 : XF RX9 17 9 3 RX9 TX9 9 := ⟨rfl, by decide, m_530, in_X9⟩
theorem f_X9_111 : XF RX9 111 9 4 RX9 TX9 9 := ⟨rfl, by decide, m_531, in_X9⟩
theorem f_X9_132 : XF RX9 132 9 5 RX9 TX9 9 := ⟨rfl, by decide, m_532, in_X9⟩
theorem f_X9_135 : XF RX9 135 9 6 RX9 TX9 9 := ⟨rfl, by decide, m_533, in_X9⟩
theorem f_X9_114 : XF RX9 114 9 7 RX9 TX9 9 := ⟨rfl, by decide, m_534, in_X9⟩
theorem f_X9_21 : XF RX9 21 9 8 RX9 TX9 9 := ⟨rfl, by decide, m_535, in_X9⟩
theorem v_L_9 : XI RL 9 yX8_init cX8_init 1 0 := ⟨m_18, m_19, m_1, m_20, rfl, by decide, by decide, by decide +kernel⟩
theorem v_X8_9 : XI RX8 9 yX6_init cX6_init 1 0 := ⟨m_26, m_27, m_2, m_28, rfl, by decide, by decide, by decide +kernel⟩
theorem v_X6_11 : XIN RX6 11 yX5_init RX8 cX5_init 1 0 := ⟨nw_0, m_32, m_3, m_33, rfl, by decide, by decide, by decide +kernel⟩
theorem v_X6_20 : XIN RX6 20 yX4_init RX8 cX4_init 1 0 := ⟨nw_1, m_46, m_4, m_47, rfl, by decide, by decide, by decide +kernel⟩
theorem v_X6_27 : XIN RX6 27 yX2_init RX8 cX2_init 1 0 := ⟨nw_2, m_58, m_5, m_59, rfl, by decide, by decide, by decide +kernel⟩
theorem v_X8_21 : XI RX8 21 yX1_init cX1_init 2 0 := ⟨m_99, m_100, m_6, m_101, rfl, by decide, by decide, by decide +kernel⟩
theorem v_X1_17 : XI RX1 17 yX6_init cX6_init 1 0 := ⟨m_104, m_27, m_2, m_28, rfl, by decide, by decide, by decide +kernel⟩
theorem v_X8_28 : XIN RX8 28 yX7_init RX8 cX7_init 1 0 := ⟨nw_3, m_114, m_7, m_115, rfl, by decide, by decide, by decide +kernel⟩
theorem v_X8_35 : XIN RX8 35 yX3_init RX8 cX3_init 1 0 := ⟨nw_4, m_124, m_8, m_125, rfl, by decide, by decide, by decide +kernel⟩
theorem v_X8_42 : XIN RX8 42 yX0_init RX8 cX0_init 1 0 := ⟨nw_5, m_140, m_9, m_141, rfl, by decide, by decide, by decide +kernel⟩
theorem v_L_13 : XV RL 13 yX8_sample cX8_sample 3 (some .int) 1 := ⟨m_167, m_168, m_169, m_1, m_170, by decide, by decide, by decide +kernel⟩
theorem v_X8_47 : XS RX8 47 yX8_sampleError cX8_sampleError 1 (some .int) 1 := ⟨m_171, m_172, m_1, m_173, by decide, by decide, by decide +kernel⟩
theorem v_X8_178 : XS RX8 178 yX8_isSample cX8_isSample 1 (some .boolean) 1 := ⟨m_174, m_175, m_1, m_176, by decide, by decide, by decide +kernel⟩
theorem v_X8_140 : XS RX8 140 yX8_isWithin cX8_isWithin 3 (some .boolean) 3 := ⟨m_177, m_178, m_1, m_179, by decide, by decide, by decide +kernel⟩
theorem v_X8_51 : XV RX8 51 yX1_keep cX1_keep 3 none 1 := ⟨m_181, m_182, m_183, m_6, m_184, by decide, by decide, by decide +kernel⟩
theorem v_X1_31 : XV RX1 31 yX1_stateAt cX1_stateAt 2 (some (.object "SharedEchoes$State")) 1 := ⟨m_185, m_186, m_737, m_6, m_187, by decide, by decide, by decide +kernel⟩
theorem v_X1_22 : XS RX1 22 yJ9_floorMod_7cf53 cJ9_floorMod_7cf53 3 (some .int) 2 := ⟨m_188, m_189, m_11, m_190, by decide, by decide, by decide +kernel⟩
theorem v_X1_35 : XV RX1 35 yX6_takeOver cX6_takeOver 2 none 1 := ⟨m_191, m_192, m_193, m_2, m_194, by decide, by decide, by decide +kernel⟩
theorem v_X6_101 : XV RX6 101 yX5_takeOver cX5_takeOver 2 none 1 := ⟨m_195, m_196, m_197, m_3, m_198, by decide, by decide, by decide +kernel⟩
theorem v_X6_105 : XV RX6 105 yX4_takeOver cX4_takeOver 2 none 1 := ⟨m_202, m_203, m_204, m_4, m_205, by decide, by decide, by decide +kernel⟩
theorem v_X6_108 : XV RX6 108 yX2_takeOver cX2_takeOver 2 none 1 := ⟨m_207, m_208, m_209, m_5, m_210, by decide, by decide, by decide +kernel⟩
theorem v_X8_55 : XV RX8 55 yX6_letThrough cX6_letThrough 6 (some .int) 1 := ⟨m_212, m_213, m_214, m_2, m_215, by decide, by decide, by decide +kernel⟩
theorem v_X6_64 : XV RX6 64 yX6_shareOf cX6_shareOf 2 (some .int) 1 := ⟨m_216, m_217, m_218, m_2, m_219, by decide, by decide, by decide +kernel⟩
theorem v_X6_43 : XS RX6 43 yX6_isRow cX6_isRow 1 (some .boolean) 1 := ⟨m_220, m_221, m_2, m_222, by decide, by decide, by decide +kernel⟩
theorem v_X6_57 : XV RX6 57 yX6_readingOf cX6_readingOf 2 (some .int) 1 := ⟨m_223, m_224, m_225, m_2, m_226, by decide, by decide, by decide +kernel⟩
theorem v_X6_54 : XV RX6 54 yX5_wordAt cX5_wordAt 2 (some .int) 1 := ⟨m_227, m_228, m_229, m_3, m_230, by decide, by decide, by decide +kernel⟩
theorem v_X6_60 : XSN RX6 60 yX8_thousandths RX8 cX8_thousandths 2 (some .int) 2 := ⟨nw_6, m_231, m_1, m_232, by decide, by decide, by decide +kernel⟩
theorem v_X6_70 : XSN RX6 70 yX8_shaped RX8 cX8_shaped 6 (some .int) 3 := ⟨nw_7, m_233, m_1, m_234, by decide, by decide, by decide +kernel⟩
theorem v_X8_193 : XS RX8 193 yJ9_abs_0f7a4 cJ9_abs_0f7a4 1 (some .int) 1 := ⟨m_235, m_236, m_11, m_237, by decide, by decide, by decide +kernel⟩
theorem v_X8_257 : XS RX8 257 yJ9_min_7cf53 cJ9_min_7cf53 2 (some .int) 2 := ⟨m_238, m_239, m_11, m_240, by decide, by decide, by decide +kernel⟩
theorem v_X6_74 : XV RX6 74 yX5_write cX5_write 2 none 1 := ⟨m_241, m_242, m_243, m_3, m_244, by decide, by decide, by decide +kernel⟩
theorem v_X6_78 : XV RX6 78 yX4_add cX4_add 2 none 1 := ⟨m_245, m_246, m_247, m_4, m_248, by decide, by decide, by decide +kernel⟩
theorem v_X4_22 : XS RX4 22 yJ9_min_7cf53 cJ9_min_7cf53 2 (some .int) 2 := ⟨m_249, m_239, m_11, m_240, by decide, by decide, by decide +kernel⟩
theorem v_X6_81 : XV RX6 81 yX2_add cX2_add 5 none 3 := ⟨m_250, m_251, m_252, m_5, m_253, by decide, by decide, by decide +kernel⟩
theorem v_X2_7 : XS RX2 7 yJ9_abs_0f7a4 cJ9_abs_0f7a4 1 (some .int) 1 := ⟨m_254, m_236, m_11, m_237, by decide, by decide, by decide +kernel⟩
theorem v_X2_26 : XS RX2 26 yJ9_max_7cf53 cJ9_max_7cf53 2 (some .int) 2 := ⟨m_255, m_256, m_11, m_257, by decide, by decide, by decide +kernel⟩
theorem v_L_18 : XV RL 18 yX8_silence cX8_silence 3 (some .int) 1 := ⟨m_258, m_259, m_260, m_1, m_261, by decide, by decide, by decide +kernel⟩
theorem v_X8_58 : XS RX8 58 yX8_silenceError cX8_silenceError 1 (some .int) 1 := ⟨m_262, m_263, m_1, m_264, by decide, by decide, by decide +kernel⟩
theorem v_X8_61 : XV RX8 61 yX6_letSilenceThrough cX6_letSilenceThrough 4 (some .int) 1 := ⟨m_265, m_266, m_267, m_2, m_268, by decide, by decide, by decide +kernel⟩
theorem v_X6_84 : XV RX6 84 yX6_letThrough cX6_letThrough 6 (some .int) 1 := ⟨m_269, m_213, m_214, m_2, m_215, by decide, by decide, by decide +kernel⟩
theorem v_X6_87 : XS RX6 87 yJ9_abs_0f7a4 cJ9_abs_0f7a4 1 (some .int) 1 := ⟨m_270, m_236, m_11, m_237, by decide, by decide, by decide +kernel⟩
theorem v_X6_92 : XS RX6 92 yJ9_max_7cf53 cJ9_max_7cf53 2 (some .int) 2 := ⟨m_271, m_256, m_11, m_257, by decide, by decide, by decide +kernel⟩
theorem v_L_22 : XV RL 22 yX8_tap cX8_tap 5 (some .int) 3 := ⟨m_272, m_273, m_274, m_1, m_275, by decide, by decide, by decide +kernel⟩
theorem v_X8_64 : XS RX8 64 yX8_tapError cX8_tapError 4 (some .int) 3 := ⟨m_276, m_277, m_1, m_278, by decide, by decide, by decide +kernel⟩
theorem v_X8_76 : XS RX8 76 yX8_isTap cX8_isTap 1 (some .boolean) 1 := ⟨m_279, m_280, m_1, m_281, by decide, by decide, by decide +kernel⟩
theorem v_X8_68 : XV RX8 68 yX6_putRow cX6_putRow 4 none 3 := ⟨m_282, m_283, m_284, m_2, m_285, by decide, by decide, by decide +kernel⟩
theorem v_X8_72 : XV RX8 72 yX6_isLost cX6_isLost 2 (some .boolean) 1 := ⟨m_286, m_287, m_288, m_2, m_289, by decide, by decide, by decide +kernel⟩
theorem v_X6_47 : XV RX6 47 yX6_delayOf cX6_delayOf 2 (some .int) 1 := ⟨m_290, m_291, m_292, m_2, m_293, by decide, by decide, by decide +kernel⟩
theorem v_L_27 : XV RL 27 yX8_off cX8_off 3 (some .int) 1 := ⟨m_294, m_295, m_296, m_1, m_297, by decide, by decide, by decide +kernel⟩
theorem v_X8_80 : XV RX8 80 yX6_isOn cX6_isOn 2 (some .boolean) 1 := ⟨m_298, m_299, m_300, m_2, m_301, by decide, by decide, by decide +kernel⟩
theorem v_X8_84 : XV RX8 84 yX6_delayOf cX6_delayOf 2 (some .int) 1 := ⟨m_303, m_291, m_292, m_2, m_293, by decide, by decide, by decide +kernel⟩
theorem v_L_31 : XV RL 31 yX8_feedback cX8_feedback 5 (some .int) 2 := ⟨m_304, m_305, m_306, m_1, m_307, by decide, by decide, by decide +kernel⟩
theorem v_X8_87 : XS RX8 87 yX8_feedbackError cX8_feedbackError 3 (some .int) 2 := ⟨m_308, m_309, m_1, m_310, by decide, by decide, by decide +kernel⟩
theorem v_X8_91 : XV RX8 91 yX6_gainOf cX6_gainOf 2 (some .int) 1 := ⟨m_311, m_312, m_313, m_2, m_314, by decide, by decide, by decide +kernel⟩
theorem v_L_36 : XV RL 36 yX8_steal cX8_steal 3 (some .int) 1 := ⟨m_315, m_316, m_317, m_1, m_318, by decide, by decide, by decide +kernel⟩
theorem v_X8_94 : XV RX8 94 yX6_wordsOfProgram cX6_wordsOfProgram 1 (some .int) 0 := ⟨m_319, m_320, m_321, m_2, m_322, by decide, by decide, by decide +kernel⟩
theorem v_X8_98 : XS RX8 98 yX8_stealError cX8_stealError 2 (some .int) 2 := ⟨m_323, m_324, m_1, m_325, by decide, by decide, by decide +kernel⟩
theorem v_X8_101 : XV RX8 101 yX6_takeWords cX6_takeWords 2 none 1 := ⟨m_327, m_328, m_329, m_2, m_330, by decide, by decide, by decide +kernel⟩
theorem v_X6_95 : XV RX6 95 yX5_shorten cX5_shorten 2 none 1 := ⟨m_331, m_332, m_333, m_3, m_334, by decide, by decide, by decide +kernel⟩
theorem v_X5_22 : XS RX5 22 yJ9_max_7cf53 cJ9_max_7cf53 2 (some .int) 2 := ⟨m_335, m_256, m_11, m_257, by decide, by decide, by decide +kernel⟩
theorem v_L_40 : XV RL 40 yX8_giveBack cX8_giveBack 3 (some .int) 1 := ⟨m_336, m_337, m_338, m_1, m_339, by decide, by decide, by decide +kernel⟩
theorem v_X8_115 : XS RX8 115 yX8_giveBackError cX8_giveBackError 2 (some .int) 2 := ⟨m_340, m_341, m_1, m_342, by decide, by decide, by decide +kernel⟩
theorem v_X8_118 : XV RX8 118 yX5_lengthen cX5_lengthen 4 none 1 := ⟨m_343, m_344, m_345, m_3, m_346, by decide, by decide, by decide +kernel⟩
theorem v_X5_28 : XS RX5 28 yJ9_min_7cf53 cJ9_min_7cf53 2 (some .int) 2 := ⟨m_347, m_239, m_11, m_240, by decide, by decide, by decide +kernel⟩
theorem v_L_44 : XV RL 44 yX8_set cX8_set 3 (some .int) 2 := ⟨m_348, m_349, m_350, m_1, m_351, by decide, by decide, by decide +kernel⟩
theorem v_X8_121 : XS RX8 121 yX8_isSetting cX8_isSetting 2 (some .boolean) 2 := ⟨m_352, m_353, m_1, m_354, by decide, by decide, by decide +kernel⟩
theorem v_X8_125 : XV RX8 125 yX6_putSetting cX6_putSetting 4 (some .int) 2 := ⟨m_355, m_356, m_357, m_2, m_358, by decide, by decide, by decide +kernel⟩
theorem v_L_48 : XV RL 48 yX8_reset cX8_reset 2 (some .int) 0 := ⟨m_359, m_360, m_361, m_1, m_362, by decide, by decide, by decide +kernel⟩
theorem v_X8_137 : XV RX8 137 yX2_startAnew cX2_startAnew 1 none 0 := ⟨m_363, m_364, m_365, m_5, m_366, by decide, by decide, by decide +kernel⟩
theorem v_L_53 : XV RL 53 yX8_tapOf cX8_tapOf 3 (some .int) 2 := ⟨m_367, m_368, m_369, m_1, m_370, by decide, by decide, by decide +kernel⟩
theorem v_X8_145 : XV RX8 145 yX6_readingOf cX6_readingOf 2 (some .int) 1 := ⟨m_372, m_224, m_225, m_2, m_226, by decide, by decide, by decide +kernel⟩
theorem v_X8_148 : XV RX8 148 yX6_shareOf cX6_shareOf 2 (some .int) 1 := ⟨m_373, m_217, m_218, m_2, m_219, by decide, by decide, by decide +kernel⟩
theorem v_L_57 : XV RL 57 yX8_wordOf cX8_wordOf 2 (some .int) 1 := ⟨m_374, m_375, m_376, m_1, m_377, by decide, by decide, by decide +kernel⟩
theorem v_X8_151 : XV RX8 151 yX5_wordAt cX5_wordAt 2 (some .int) 1 := ⟨m_378, m_228, m_229, m_3, m_230, by decide, by decide, by decide +kernel⟩
theorem v_L_61 : XV RL 61 yX8_outputOf cX8_outputOf 2 (some .int) 1 := ⟨m_379, m_380, m_381, m_1, m_382, by decide, by decide, by decide +kernel⟩
theorem v_X8_163 : XV RX8 163 yX4_latest cX4_latest 2 (some .int) 1 := ⟨m_383, m_384, m_385, m_4, m_386, by decide, by decide, by decide +kernel⟩
theorem v_X4_28 : XS RX4 28 yJ9_floorMod_7cf53 cJ9_floorMod_7cf53 3 (some .int) 2 := ⟨m_387, m_189, m_11, m_190, by decide, by decide, by decide +kernel⟩
theorem v_L_65 : XV RL 65 yX8_meter cX8_meter 2 (some .int) 1 := ⟨m_388, m_389, m_390, m_1, m_391, by decide, by decide, by decide +kernel⟩
theorem v_X8_175 : XV RX8 175 yX2_bitsOfMean cX2_bitsOfMean 1 (some .int) 0 := ⟨m_392, m_393, m_394, m_5, m_395, by decide, by decide, by decide +kernel⟩
theorem v_X2_36 : XS RX2 36 yX2_bitsOf cX2_bitsOf 4 (some .int) 1 := ⟨m_396, m_397, m_5, m_398, by decide, by decide, by decide +kernel⟩
theorem v_L_69 : XV RL 69 yX8_echo cX8_echo 5 (some .int) 2 := ⟨m_401, m_402, m_403, m_1, m_404, by decide, by decide, by decide +kernel⟩
theorem v_X8_181 : XV RX8 181 yX6_takeOver cX6_takeOver 2 none 1 := ⟨m_405, m_192, m_193, m_2, m_194, by decide, by decide, by decide +kernel⟩
theorem v_X8_184 : XV RX8 184 yX5_fillWithZeros cX5_fillWithZeros 1 none 0 := ⟨m_406, m_407, m_408, m_3, m_409, by decide, by decide, by decide +kernel⟩
theorem v_X5_31 : XS RX5 31 yJ7_fill_53178 cJ7_fill_53178 4 none 2 := ⟨m_410, m_411, m_15, m_412, by decide, by decide, by decide +kernel⟩
theorem v_L_73 : XV RL 73 yX8_quietAfter cX8_quietAfter 6 (some .int) 1 := ⟨m_413, m_414, m_415, m_1, m_416, by decide, by decide, by decide +kernel⟩
theorem v_X8_187 : XV RX8 187 yX5_wordsAbove cX5_wordsAbove 4 (some .int) 1 := ⟨m_417, m_418, m_419, m_3, m_420, by decide, by decide, by decide +kernel⟩
theorem v_X5_37 : XV RX5 37 yX5_wordAt cX5_wordAt 2 (some .int) 1 := ⟨m_421, m_228, m_229, m_3, m_230, by decide, by decide, by decide +kernel⟩
theorem v_X5_41 : XS RX5 41 yJ9_abs_0f7a4 cJ9_abs_0f7a4 1 (some .int) 1 := ⟨m_422, m_236, m_11, m_237, by decide, by decide, by decide +kernel⟩
theorem v_X8_190 : XV RX8 190 yX6_feedRing cX6_feedRing 3 (some .int) 1 := ⟨m_423, m_424, m_425, m_2, m_426, by decide, by decide, by decide +kernel⟩
theorem v_L_77 : XV RL 77 yX8_loudest cX8_loudest 3 (some .int) 0 := ⟨m_427, m_428, m_429, m_1, m_430, by decide, by decide, by decide +kernel⟩
theorem v_X8_201 : XS RX8 201 yX8_thousandths cX8_thousandths 2 (some .int) 2 := ⟨m_431, m_231, m_1, m_232, by decide, by decide, by decide +kernel⟩
theorem v_L_81 : XV RL 81 yX8_safeGain cX8_safeGain 7 (some .int) 2 := ⟨m_432, m_433, m_434, m_1, m_435, by decide, by decide, by decide +kernel⟩
theorem v_X8_204 : XV RX8 204 yX8_wouldBeQuiet cX8_wouldBeQuiet 5 (some .boolean) 3 := ⟨m_436, m_437, m_738, m_1, m_438, by decide, by decide, by decide +kernel⟩
theorem v_L_85 : XV RL 85 yX8_count cX8_count 2 (some .int) 1 := ⟨m_439, m_440, m_441, m_1, m_442, by decide, by decide, by decide +kernel⟩
theorem v_X8_207 : XV RX8 207 yX8_tapsOn cX8_tapsOn 3 (some .int) 0 := ⟨m_443, m_444, m_739, m_1, m_445, by decide, by decide, by decide +kernel⟩
theorem v_X8_210 : XV RX8 210 yX8_tapsLost cX8_tapsLost 3 (some .int) 0 := ⟨m_446, m_447, m_740, m_1, m_448, by decide, by decide, by decide +kernel⟩
theorem v_X8_213 : XV RX8 213 yX5_sumOfAmounts cX5_sumOfAmounts 3 (some .int) 0 := ⟨m_449, m_450, m_451, m_3, m_452, by decide, by decide, by decide +kernel⟩
theorem v_L_89 : XV RL 89 yX8_undo cX8_undo 1 (some .int) 0 := ⟨m_453, m_454, m_455, m_1, m_456, by decide, by decide, by decide +kernel⟩
theorem v_X8_224 : XV RX8 224 yX1_restoreInto cX1_restoreInto 3 none 1 := ⟨m_457, m_458, m_459, m_6, m_460, by decide, by decide, by decide +kernel⟩
theorem v_L_93 : XV RL 93 yX8_type cX8_type 2 (some .int) 1 := ⟨m_461, m_462, m_463, m_1, m_464, by decide, by decide, by decide +kernel⟩
theorem v_X8_228 : XV RX8 228 yX7_append cX7_append 2 none 1 := ⟨m_465, m_466, m_467, m_7, m_468, by decide, by decide, by decide +kernel⟩
theorem v_L_97 : XV RL 97 yX8_clearText cX8_clearText 2 (some .int) 0 := ⟨m_469, m_470, m_471, m_1, m_472, by decide, by decide, by decide +kernel⟩
theorem v_L_101 : XV RL 101 yX8_fault cX8_fault 2 (some .int) 1 := ⟨m_473, m_474, m_475, m_1, m_476, by decide, by decide, by decide +kernel⟩
theorem v_X8_231 : XV RX8 231 yX8_findFault cX8_findFault 5 none 0 := ⟨m_477, m_478, m_741, m_1, m_479, by decide, by decide, by decide +kernel⟩
theorem v_X8_247 : XV RX8 247 yX3_read cX3_read 6 none 2 := ⟨m_480, m_481, m_482, m_8, m_483, by decide, by decide, by decide +kernel⟩
theorem v_X3_15 : XV RX3 15 yX7_characterAt cX7_characterAt 2 (some .int) 1 := ⟨m_484, m_485, m_486, m_7, m_487, by decide, by decide, by decide +kernel⟩
theorem v_X3_28 : XV RX3 28 yX3_numbersOfKind cX3_numbersOfKind 1 (some .int) 0 := ⟨m_488, m_489, m_742, m_8, m_490, by decide, by decide, by decide +kernel⟩
theorem v_X3_36 : XV RX3 36 yX3_readNumber cX3_readNumber 7 none 3 := ⟨m_491, m_492, m_743, m_8, m_493, by decide, by decide, by decide +kernel⟩
theorem v_X3_44 : XS RX3 44 yX3_isDigit cX3_isDigit 1 (some .boolean) 1 := ⟨m_494, m_495, m_8, m_496, by decide, by decide, by decide +kernel⟩
theorem v_X3_40 : XV RX3 40 yX3_readSign cX3_readSign 3 none 2 := ⟨m_497, m_498, m_744, m_8, m_499, by decide, by decide, by decide +kernel⟩
theorem v_X8_263 : XV RX8 263 yX0_put cX0_put 4 none 3 := ⟨m_500, m_501, m_502, m_9, m_503, by decide, by decide, by decide +kernel⟩
theorem v_X8_266 : XV RX8 266 yX8_orderError cX8_orderError 4 (some .int) 1 := ⟨m_504, m_505, m_745, m_1, m_506, by decide, by decide, by decide +kernel⟩
theorem v_X8_272 : XV RX8 272 yX3_numberAt cX3_numberAt 2 (some .int) 1 := ⟨m_507, m_508, m_509, m_8, m_510, by decide, by decide, by decide +kernel⟩
theorem v_X8_269 : XV RX8 269 yX8_wordsThatGo cX8_wordsThatGo 2 (some .int) 0 := ⟨m_511, m_512, m_746, m_1, m_513, by decide, by decide, by decide +kernel⟩
theorem v_L_105 : XV RL 105 yX8_play cX8_play 3 (some .int) 0 := ⟨m_514, m_515, m_516, m_1, m_517, by decide, by decide, by decide +kernel⟩
theorem v_X8_251 : XV RX8 251 yX8_doOrder cX8_doOrder 3 none 0 := ⟨m_518, m_519, m_747, m_1, m_520, by decide, by decide, by decide +kernel⟩
theorem v_L_12 : XI RL 12 yX9_init cX9_init 1 0 := ⟨m_523, m_524, m_10, m_525, rfl, by decide, by decide, by decide +kernel⟩
theorem v_L_17 : XV RL 17 yX9_sample cX9_sample 2 (some .int) 1 := ⟨m_547, m_548, m_549, m_10, m_550, by decide, by decide, by decide +kernel⟩
theorem v_X9_63 : XV RX9 63 yX9_keeps cX9_keeps 1 none 0 := ⟨m_551, m_552, m_748, m_10, m_553, by decide, by decide, by decide +kernel⟩
theorem v_X9_24 : XV RX9 24 yX9_copies cX9_copies 4 none 2 := ⟨m_554, m_555, m_749, m_10, m_556, by decide, by decide, by decide +kernel⟩
theorem v_X9_66 : XV RX9 66 yX9_doSample cX9_doSample 2 (some .int) 1 := ⟨m_557, m_558, m_750, m_10, m_559, by decide, by decide, by decide +kernel⟩
theorem v_X9_54 : XS RX9 54 yX9_in cX9_in 3 (some .boolean) 3 := ⟨m_560, m_561, m_10, m_562, by decide, by decide, by decide +kernel⟩
theorem v_X9_58 : XV RX9 58 yX9_goes cX9_goes 10 (some .int) 2 := ⟨m_563, m_564, m_751, m_10, m_565, by decide, by decide, by decide +kernel⟩
theorem v_X9_48 : XV RX9 48 yX9_share cX9_share 3 (some .int) 2 := ⟨m_566, m_567, m_752, m_10, m_568, by decide, by decide, by decide +kernel⟩
theorem v_X9_41 : XV RX9 41 yX9_reads cX9_reads 3 (some .int) 2 := ⟨m_569, m_570, m_753, m_10, m_571, by decide, by decide, by decide +kernel⟩
theorem v_X9_37 : XV RX9 37 yX9_isLost cX9_isLost 3 (some .boolean) 2 := ⟨m_572, m_573, m_754, m_10, m_574, by decide, by decide, by decide +kernel⟩
theorem v_X9_33 : XV RX9 33 yX9_length cX9_length 2 (some .int) 1 := ⟨m_575, m_576, m_755, m_10, m_577, by decide, by decide, by decide +kernel⟩
theorem v_X9_51 : XV RX9 51 yX9_shaped cX9_shaped 8 (some .int) 2 := ⟨m_578, m_579, m_756, m_10, m_580, by decide, by decide, by decide +kernel⟩
theorem v_X9_45 : XS RX9 45 yX9_amount cX9_amount 1 (some .int) 1 := ⟨m_581, m_582, m_10, m_583, by decide, by decide, by decide +kernel⟩
theorem v_X9_69 : XV RX9 69 yX9_acted cX9_acted 3 (some .int) 1 := ⟨m_585, m_586, m_757, m_10, m_587, by decide, by decide, by decide +kernel⟩
theorem v_L_21 : XV RL 21 yX9_silence cX9_silence 2 (some .int) 1 := ⟨m_588, m_589, m_590, m_10, m_591, by decide, by decide, by decide +kernel⟩
theorem v_X9_72 : XV RX9 72 yX9_doSilence cX9_doSilence 5 (some .int) 1 := ⟨m_592, m_593, m_758, m_10, m_594, by decide, by decide, by decide +kernel⟩
theorem v_L_26 : XV RL 26 yX9_tap cX9_tap 4 (some .int) 3 := ⟨m_595, m_596, m_597, m_10, m_598, by decide, by decide, by decide +kernel⟩
theorem v_X9_75 : XV RX9 75 yX9_doTap cX9_doTap 4 (some .int) 3 := ⟨m_599, m_600, m_759, m_10, m_601, by decide, by decide, by decide +kernel⟩
theorem v_L_30 : XV RL 30 yX9_off cX9_off 2 (some .int) 1 := ⟨m_602, m_603, m_604, m_10, m_605, by decide, by decide, by decide +kernel⟩
theorem v_L_35 : XV RL 35 yX9_feedback cX9_feedback 3 (some .int) 2 := ⟨m_607, m_608, m_609, m_10, m_610, by decide, by decide, by decide +kernel⟩
theorem v_X9_79 : XV RX9 79 yX9_doFeedback cX9_doFeedback 4 (some .int) 2 := ⟨m_611, m_612, m_760, m_10, m_613, by decide, by decide, by decide +kernel⟩
theorem v_L_39 : XV RL 39 yX9_steal cX9_steal 2 (some .int) 1 := ⟨m_614, m_615, m_616, m_10, m_617, by decide, by decide, by decide +kernel⟩
theorem v_X9_82 : XV RX9 82 yX9_doSteal cX9_doSteal 3 (some .int) 1 := ⟨m_618, m_619, m_761, m_10, m_620, by decide, by decide, by decide +kernel⟩
theorem v_L_43 : XV RL 43 yX9_giveBack cX9_giveBack 2 (some .int) 1 := ⟨m_622, m_623, m_624, m_10, m_625, by decide, by decide, by decide +kernel⟩
theorem v_X9_85 : XV RX9 85 yX9_doGive cX9_doGive 2 (some .int) 1 := ⟨m_626, m_627, m_762, m_10, m_628, by decide, by decide, by decide +kernel⟩
theorem v_L_47 : XV RL 47 yX9_set cX9_set 4 (some .int) 2 := ⟨m_629, m_630, m_631, m_10, m_632, by decide, by decide, by decide +kernel⟩
theorem v_L_52 : XV RL 52 yX9_reset cX9_reset 2 (some .int) 0 := ⟨m_633, m_634, m_635, m_10, m_636, by decide, by decide, by decide +kernel⟩
theorem v_L_56 : XV RL 56 yX9_tapOf cX9_tapOf 3 (some .int) 2 := ⟨m_637, m_638, m_639, m_10, m_640, by decide, by decide, by decide +kernel⟩
theorem v_L_60 : XV RL 60 yX9_wordOf cX9_wordOf 2 (some .int) 1 := ⟨m_642, m_643, m_644, m_10, m_645, by decide, by decide, by decide +kernel⟩
theorem v_L_64 : XV RL 64 yX9_outputOf cX9_outputOf 2 (some .int) 1 := ⟨m_646, m_647, m_648, m_10, m_649, by decide, by decide, by decide +kernel⟩
theorem v_L_68 : XV RL 68 yX9_meter cX9_meter 2 (some .int) 1 := ⟨m_650, m_651, m_652, m_10, m_653, by decide, by decide, by decide +kernel⟩
theorem v_X9_89 : XS RX9 89 yJxf58ca_floatToIntBits_5c35a cJxf58ca_floatToIntBits_5c35a 1 (some .int) 1 := ⟨m_654, m_655, m_14, m_656, by decide, by decide, by decide +kernel⟩
theorem v_Jxf58ca_59 : XS RJxf58ca 59 yJxf58ca_isNaN_12338 cJxf58ca_isNaN_12338 1 (some .boolean) 1 := ⟨m_657, m_658, m_14, m_659, by decide, by decide, by decide +kernel⟩
theorem v_L_72 : XV RL 72 yX9_echo cX9_echo 5 (some .int) 2 := ⟨m_664, m_665, m_666, m_10, m_667, by decide, by decide, by decide +kernel⟩
theorem v_X9_95 : XV RX9 95 yX9_silenced cX9_silenced 2 none 0 := ⟨m_668, m_669, m_763, m_10, m_670, by decide, by decide, by decide +kernel⟩
theorem v_L_76 : XV RL 76 yX9_quietAfter cX9_quietAfter 3 (some .int) 1 := ⟨m_671, m_672, m_673, m_10, m_674, by decide, by decide, by decide +kernel⟩
theorem v_X9_98 : XV RX9 98 yX9_greatestWord cX9_greatestWord 5 (some .int) 1 := ⟨m_675, m_676, m_764, m_10, m_677, by decide, by decide, by decide +kernel⟩
theorem v_L_80 : XV RL 80 yX9_loudest cX9_loudest 3 (some .int) 0 := ⟨m_678, m_679, m_680, m_10, m_681, by decide, by decide, by decide +kernel⟩
theorem v_L_84 : XV RL 84 yX9_safeGain cX9_safeGain 6 (some .int) 2 := ⟨m_682, m_683, m_684, m_10, m_685, by decide, by decide, by decide +kernel⟩
theorem v_X9_101 : XV RX9 101 yX9_isQuiet cX9_isQuiet 5 (some .boolean) 3 := ⟨m_686, m_687, m_765, m_10, m_688, by decide, by decide, by decide +kernel⟩
theorem v_L_88 : XV RL 88 yX9_count cX9_count 2 (some .int) 1 := ⟨m_689, m_690, m_691, m_10, m_692, by decide, by decide, by decide +kernel⟩
theorem v_X9_104 : XV RX9 104 yX9_taps cX9_taps 4 (some .int) 1 := ⟨m_693, m_694, m_766, m_10, m_695, by decide, by decide, by decide +kernel⟩
theorem v_X9_108 : XV RX9 108 yX9_words cX9_words 4 (some .int) 1 := ⟨m_696, m_697, m_767, m_10, m_698, by decide, by decide, by decide +kernel⟩
theorem v_L_92 : XV RL 92 yX9_undo cX9_undo 1 (some .int) 0 := ⟨m_699, m_700, m_701, m_10, m_702, by decide, by decide, by decide +kernel⟩
theorem v_L_96 : XV RL 96 yX9_type cX9_type 2 (some .int) 1 := ⟨m_703, m_704, m_705, m_10, m_706, by decide, by decide, by decide +kernel⟩
theorem v_L_100 : XV RL 100 yX9_clearText cX9_clearText 2 (some .int) 0 := ⟨m_707, m_708, m_709, m_10, m_710, by decide, by decide, by decide +kernel⟩
theorem v_L_104 : XV RL 104 yX9_fault cX9_fault 3 (some .int) 1 := ⟨m_711, m_712, m_713, m_10, m_714, by decide, by decide, by decide +kernel⟩
theorem v_X9_141 : XV RX9 141 yX9_goesOn cX9_goesOn 5 (some .int) 0 := ⟨m_715, m_716, m_768, m_10, m_717, by decide, by decide, by decide +kernel⟩
theorem v_X9_117 : XV RX9 117 yX9_sign cX9_sign 1 (some .int) 0 := ⟨m_718, m_719, m_769, m_10, m_720, by decide, by decide, by decide +kernel⟩
theorem v_X9_129 : XV RX9 129 yX9_order cX9_order 3 (some .boolean) 1 := ⟨m_721, m_722, m_770, m_10, m_723, by decide, by decide, by decide +kernel⟩
theorem v_X9_121 : XV RX9 121 yX9_number cX9_number 6 (some .boolean) 2 := ⟨m_724, m_725, m_771, m_10, m_726, by decide, by decide, by decide +kernel⟩
theorem v_X9_125 : XV RX9 125 yX9_takes cX9_takes 2 (some .boolean) 1 := ⟨m_727, m_728, m_772, m_10, m_729, by decide, by decide, by decide +kernel⟩
theorem v_X9_138 : XV RX9 138 yX9_does cX9_does 2 (some .int) 1 := ⟨m_730, m_731, m_773, m_10, m_732, by decide, by decide, by decide +kernel⟩
theorem v_L_108 : XV RL 108 yX9_play cX9_play 2 (some .int) 0 := ⟨m_733, m_734, m_735, m_10, m_736, by decide, by decide, by decide +kernel⟩
theorem y_cls_all : True := trivial
end
section
/-! ===== what the cells hold ===== -/
abbrev SV : Type := (Nat → Int32) × Int32 × Int32 × (Nat → Int32) × Int32 × Int32 × Int32 × Int32 × Int32 × Int32 × Int64 × (Nat → Int32) × (Nat → Int32) × Int32 × Int32 × Int32
/-- a state: words, first, length; row, next, kept; samples, greatest, held outputs, held words, sum; delays, gains; limit, shape, stolen -/
abbrev mkS (w : Nat → Int32) (fi le : Int32) (ro : Nat → Int32) (ne ke sa gr ho hw : Int32) (su : Int64) (de ga : Nat → Int32) (li sh sl : Int32) : SV := (w, fi, le, ro, ne, ke, sa, gr, ho, hw, su, de, ga, li, sh, sl)
abbrev vW (v : SV) : Nat → Int32 := v.1
abbrev vFi (v : SV) : Int32 := v.2.1
abbrev vLe (v : SV) : Int32 := v.2.2.1
abbrev vRo (v : SV) : Nat → Int32 := v.2.2.2.1
abbrev vNe (v : SV) : Int32 := v.2.2.2.2.1
abbrev vKe (v : SV) : Int32 := v.2.2.2.2.2.1
abbrev vSa (v : SV) : Int32 := v.2.2.2.2.2.2.1
abbrev vGr (v : SV) : Int32 := v.2.2.2.2.2.2.2.1
abbrev vHo (v : SV) : Int32 := v.2.2.2.2.2.2.2.2.1
abbrev vHw (v : SV) : Int32 := v.2.2.2.2.2.2.2.2.2.1
abbrev vSu (v : SV) : Int64 := v.2.2.2.2.2.2.2.2.2.2.1
abbrev vDe (v : SV) : Nat → Int32 := v.2.2.2.2.2.2.2.2.2.2.2.1
abbrev vGa (v : SV) : Nat → Int32 := v.2.2.2.2.2.2.2.2.2.2.2.2.1
abbrev vLi (v : SV) : Int32 := v.2.2.2.2.2.2.2.2.2.2.2.2.2.1
abbrev vSh (v : SV) : Int32 := v.2.2.2.2.2.2.2.2.2.2.2.2.2.2.1
abbrev vSl (v : SV) : Int32 := v.2.2.2.2.2.2.2.2.2.2.2.2.2.2.2
abbrev ia (E : XE) (n : Nat) (f : Nat → Int32) : va_E := .inl (xI E, n, .inl f)
def ringC (E : XE) (b : Nat) (w : Nat → Int32) (fi le : Int32) : List va_E := [.inr (5, [.ref (b + 1), .int fi, .int le]), ia E 64 w]
def outC (E : XE) (b : Nat) (ro : Nat → Int32) (ne ke : Int32) : List va_E := [.inr (4, [.ref (b + 1), .int ne, .int ke]), ia E 12 ro]
def metC (E : XE) (b : Nat) (sa gr ho hw : Int32) (su : Int64) : List va_E := [.inr (2, [.int sa, .int gr, .int ho, .int hw, .long su])]
def stC (E : XE) (b : Nat) (w : Nat → Int32) (fi le : Int32) (ro : Nat → Int32) (ne ke sa gr ho hw : Int32) (su : Int64) (de ga : Nat → Int32) (li sh sl : Int32) : List va_E :=
  .inr (6, [.ref (b + 1), .ref (b + 3), .ref (b + 5), .ref (b + 6), .ref (b + 7), .int li, .int sh, .int sl]) :: (ringC E (b + 1) w fi le ++ (outC E (b + 3) ro ne ke ++ (metC E (b + 5) sa gr ho hw su ++ [ia E 5 de, ia E 5 ga])))
def stT (E : XE) (b : Nat) (v : SV) : List va_E := stC E b (vW v) (vFi v) (vLe v) (vRo v) (vNe v) (vKe v) (vSa v) (vGr v) (vHo v) (vHw v) (vSu v) (vDe v) (vGa v) (vLi v) (vSh v) (vSl v)
def txtC (E : XE) (b : Nat) (ch : Nat → Int32) (tl : Int32) : List va_E := [.inr (7, [.ref (b + 1), .int tl]), ia E 60 ch]
def ordC (E : XE) (b : Nat) (nu : Nat → Int32) (ki en wh : Int32) : List va_E := [.inr (3, [.ref (b + 1), .int ki, .int en, .int wh]), ia E 3 nu]
def fltC (E : XE) (b : Nat) (ft fp fr fc : Int32) : List va_E := [.inr (0, [.int ft, .int fp, .int fr, .int fc])]
def toC (E : XE) (b : Nat) (ch : Nat → Int32) (tl : Int32) (nu : Nat → Int32) (ki en wh : Int32) : List va_E := txtC E b ch tl ++ ordC E (b + 2) nu ki en wh
def hArr (b : Nat) : Nat → Option Nat := fun i => if i = 0 then some b else if i = 1 then some (b + 8) else if i = 2 then some (b + 16) else if i = 3 then some (b + 24) else none
def hisC (E : XE) (b : Nat) (h0 h1 h2 h3 : SV) (ol ke : Int32) : List va_E := .inr (1, [.ref (b + 1), .int ol, .int ke]) :: .inl (xQ E, 4, .inr (.inr (.inr (.inr (hArr (b + 2)))))) :: (stT E (b + 2) h0 ++ (stT E (b + 10) h1 ++ (stT E (b + 18) h2 ++ stT E (b + 26) h3)))
def xC (E : XE) (b : Nat) (now trial h0 h1 h2 h3 : SV) (ol ke : Int32) (ch : Nat → Int32) (tl : Int32) (nu : Nat → Int32) (ki en wh ft fp fr fc : Int32) : List va_E :=
  .inr (8, [.ref (b + 1), .ref (b + 9), .ref (b + 17), .ref (b + 51), .ref (b + 53), .ref (b + 55)]) :: (stT E (b + 1) now ++ (stT E (b + 9) trial ++ (hisC E (b + 17) h0 h1 h2 h3 ol ke ++ (txtC E (b + 51) ch tl ++ (ordC E (b + 53) nu ki en wh ++ fltC E (b + 55) ft fp fr fc)))))
def mC (E : XE) (b : Nat) (s : Nat → Int32) (su : Nat → Int64) (st : Int32) (tx : Nat → Int32) (ty re ca at_ : Int32) (to : Nat → Int32) : List va_E :=
  [.inr (9, [.ref (b + 1), .ref (b + 2), .int st, .ref (b + 3), .int ty, .int re, .int ca, .int at_, .ref (b + 4)]), ia E 700 s, .inl (xJ E, 7, .inr (.inl su)), .inl (xCh E, 60, .inl tx), ia E 3 to]
theorem xlo {E : XE} {b i : Nat} (h : xB E ≤ b) : xB E ≤ b + i := Nat.le_trans h (Nat.le_add_right b i)
theorem xhi {b N n i : Nat} (h : b + n ≤ N) (hi : Nat.blt i n = true) : b + i < N := Nat.lt_of_lt_of_le (Nat.add_lt_add_left (Nat.le_of_ble_eq_true hi) b) h
theorem xhn {b N n m i : Nat} (h : b + m ≤ N) (hi : Nat.ble (i + n) m = true) : b + i + n ≤ N := by have := Nat.le_of_ble_eq_true hi; omega
/-! contracts over a slice of a world -/
theorem MF.sliceR {E : XE} {y : MethodName} {cc : ByteArray} {maxL : Nat} {ret : Option FieldType} {fr lo mc ms : Nat} {As : List Value} {N b i n : Nat} {cs sub : List va_E} {G : GW} {res : Option Value} (h1 : (cs.drop i).take n = sub) (hM : MF E y cc maxL ret fr lo mc ms As N (ov (b + i) sub (ov b cs G)) res (ov (b + i) sub (ov b cs G))) : MF E y cc maxL ret fr lo mc ms As N (ov b cs G) res (ov b cs G) := by
  rw [ov_slice h1] at hM
  exact hM
theorem MF.slice {E : XE} {y : MethodName} {cc : ByteArray} {maxL : Nat} {ret : Option FieldType} {fr lo mc ms : Nat} {As : List Value} {N b i n : Nat} {cs sub sub' cs' : List va_E} {G : GW} {res : Option Value} (h1 : (cs.drop i).take n = sub) (h2 : sub'.length = n) (h3 : i + n ≤ cs.length) (h4 : cs.take i ++ (sub' ++ cs.drop (i + n)) = cs') (hM : MF E y cc maxL ret fr lo mc ms As N (ov (b + i) sub (ov b cs G)) res (ov (b + i) sub' (ov b cs G))) : MF E y cc maxL ret fr lo mc ms As N (ov b cs G) res (ov b cs' G) := by
  rw [ov_slice h1, ov_paste h2 h3 h4] at hM
  exact hM
theorem MF.slice2s {E : XE} {y : MethodName} {cc : ByteArray} {maxL : Nat} {ret : Option FieldType} {fr lo mc ms : Nat} {As : List Value} {N b i j n k : Nat} {cs sub sub' tub cs' : List va_E} {G : GW} {res : Option Value} (h1 : (cs.drop i).take n = sub) (h5 : (cs.drop j).take k = tub) (h2 : sub'.length = n) (h3 : i + n ≤ cs.length) (h4 : cs.take i ++ (sub' ++ cs.drop (i + n)) = cs') (hM : MF E y cc maxL ret fr lo mc ms As N (ov (b + i) sub (ov (b + j) tub (ov b cs G))) res (ov (b + i) sub' (ov (b + j) tub (ov b cs G)))) : MF E y cc maxL ret fr lo mc ms As N (ov b cs G) res (ov b cs' G) := by
  rw [ov_slice h5, ov_slice h1, ov_paste h2 h3 h4] at hM
  exact hM
theorem MF.slice2 {E : XE} {y : MethodName} {cc : ByteArray} {maxL : Nat} {ret : Option FieldType} {fr lo mc ms : Nat} {As : List Value} {N a b i j n k p : Nat} {cs ds sub sub' tub cs' : List va_E} {G : GW} {res : Option Value} (h1 : (cs.drop i).take n = sub) (h5 : (ds.drop j).take k = tub) (ht : tub.length = k) (hp : cs.length = p) (h2 : sub'.length = n) (h3 : i + n ≤ cs.length) (h4 : cs.take i ++ (sub' ++ cs.drop (i + n)) = cs') (hd : a + p ≤ b + j ∨ b + j + k ≤ a) (hM : MF E y cc maxL ret fr lo mc ms As N (ov (a + i) sub (ov (b + j) tub (ov a cs (ov b ds G)))) res (ov (a + i) sub' (ov (b + j) tub (ov a cs (ov b ds G))))) : MF E y cc maxL ret fr lo mc ms As N (ov a cs (ov b ds G)) res (ov a cs' (ov b ds G)) := by
  have e : ov (b + j) tub (ov a cs (ov b ds G)) = ov a cs (ov b ds G) := by
    rw [← ov_comm hp ht hd, ov_slice h5]
  rw [e, ov_slice h1, ov_paste h2 h3 h4] at hM
  exact hM
theorem x_cV0 {E : XE} {K : XK} {nL N cells slots : Nat} {G : GW} {pc : Nat} {L : List (Nat × Value)} {st : List Value} {cc : ByteArray} {own : String} {ret : Option FieldType} {fr lo mc ms : Nat} (C : XC E K cc nL own ret fr lo mc ms) {index b ci n n2 : Nat} {y : MethodName} {bytes : ByteArray} {maxL' : Nat} {ret' : Option FieldType} {fr' lo' : Nat} {As : List Value} {G' : GW} {st0 : List Value} {fs : List Value} {T1 : u_T} (hM : MF E y bytes maxL' ret' fr' lo' 0 0 (.ref b :: As) N G none G') (hl : XV own index y bytes maxL' ret' n) (hN : xB E ≤ N) (hb1 : xB E ≤ b) (hb2 : b < N) (he : G b = .inr (ci, fs)) (hc : vwCl[ci]? = some (y.cls, T1, n2)) (hR9 : XR fr lo mc ms cells slots fr' lo' maxL' 0 0 = true) (hn : As.length = n) (hw : Nat.ble ((st.map fun v => v.category).sum) 8 = true) (hst : st0 = As.reverse ++ .ref b :: st) (hd : decode cc pc = .ok (.invokevirtual index, 3)) (k : XW E K nL N cells slots G' (pc + 3) L st) : XW E K nL N cells slots G pc L st0 := x_callV C hM hl hN hb1 hb2 he hc hR9 hn hw hst hd k
theorem x_cV1 {E : XE} {K : XK} {nL N cells slots : Nat} {G : GW} {pc : Nat} {L : List (Nat × Value)} {st : List Value} {cc : ByteArray} {own : String} {ret : Option FieldType} {fr lo mc ms : Nat} (C : XC E K cc nL own ret fr lo mc ms) {v : Value} {index b ci n n2 : Nat} {y : MethodName} {bytes : ByteArray} {maxL' : Nat} {ret' : Option FieldType} {fr' lo' : Nat} {As : List Value} {G' : GW} {st0 : List Value} {fs : List Value} {T1 : u_T} (hM : MF E y bytes maxL' ret' fr' lo' 0 0 (.ref b :: As) N G (some v) G') (hl : XV own index y bytes maxL' ret' n) (hN : xB E ≤ N) (hb1 : xB E ≤ b) (hb2 : b < N) (he : G b = .inr (ci, fs)) (hc : vwCl[ci]? = some (y.cls, T1, n2)) (hR9 : XR fr lo mc ms cells slots fr' lo' maxL' 0 0 = true) (hn : As.length = n) (hw : Nat.ble ((st.map fun v => v.category).sum) 8 = true) (hst : st0 = As.reverse ++ .ref b :: st) (hd : decode cc pc = .ok (.invokevirtual index, 3)) (k : XW E K nL N cells slots G' (pc + 3) L (v :: st)) : XW E K nL N cells slots G pc L st0 := x_callV C hM hl hN hb1 hb2 he hc hR9 hn hw hst hd k
theorem x_cS0 {E : XE} {K : XK} {nL N cells slots : Nat} {G : GW} {pc : Nat} {L : List (Nat × Value)} {st : List Value} {cc : ByteArray} {own : String} {ret : Option FieldType} {fr lo mc ms : Nat} (C : XC E K cc nL own ret fr lo mc ms) {index n : Nat} {y : MethodName} {bytes : ByteArray} {maxL' : Nat} {ret' : Option FieldType} {fr' lo' : Nat} {As : List Value} {G' : GW} {st0 : List Value} (hM : MF E y bytes maxL' ret' fr' lo' 0 0 As N G none G') (hl : XS own index y bytes maxL' ret' n) (hN : xB E ≤ N) (hR9 : XR fr lo mc ms cells slots fr' lo' maxL' 0 0 = true) (hn : As.length = n) (hw : Nat.ble ((st.map fun v => v.category).sum) 8 = true) (hst : st0 = As.reverse ++ st) (hd : decode cc pc = .ok (.invokestatic index, 3)) (k : XW E K nL N cells slots G' (pc + 3) L st) : XW E K nL N cells slots G pc L st0 := x_callS C hM hl hN hR9 hn hw hst hd k
theorem x_cS1 {E : XE} {K : XK} {nL N cells slots : Nat} {G : GW} {pc : Nat} {L : List (Nat × Value)} {st : List Value} {cc : ByteArray} {own : String} {ret : Option FieldType} {fr lo mc ms : Nat} (C : XC E K cc nL own ret fr lo mc ms) {v : Value} {index n : Nat} {y : MethodName} {bytes : ByteArray} {maxL' : Nat} {ret' : Option FieldType} {fr' lo' : Nat} {As : List Value} {G' : GW} {st0 : List Value} (hM : MF E y bytes maxL' ret' fr' lo' 0 0 As N G (some v) G') (hl : XS own index y bytes maxL' ret' n) (hN : xB E ≤ N) (hR9 : XR fr lo mc ms cells slots fr' lo' maxL' 0 0 = true) (hn : As.length = n) (hw : Nat.ble ((st.map fun v => v.category).sum) 8 = true) (hst : st0 = As.reverse ++ st) (hd : decode cc pc = .ok (.invokestatic index, 3)) (k : XW E K nL N cells slots G' (pc + 3) L (v :: st)) : XW E K nL N cells slots G pc L st0 := x_callS C hM hl hN hR9 hn hw hst hd k
theorem x_cSN0 {E : XE} {K : XK} {nL N cells slots : Nat} {G : GW} {pc : Nat} {L : List (Nat × Value)} {st : List Value} {cc : ByteArray} {own : String} {ret : Option FieldType} {fr lo mc ms : Nat} (C : XC E K cc nL own ret fr lo mc ms) {index n : Nat} {y : MethodName} {bytes : ByteArray} {maxL' : Nat} {ret' : Option FieldType} {fr' lo' : Nat} {As : List Value} {G' : GW} {st0 : List Value} {host : String} (hM : MF E y bytes maxL' ret' fr' lo' 0 0 As N G none G') (hl : XSN own index y host bytes maxL' ret' n) (hN : xB E ≤ N) (hR9 : XR fr lo mc ms cells slots fr' lo' maxL' 0 0 = true) (hn : As.length = n) (hw : Nat.ble ((st.map fun v => v.category).sum) 8 = true) (hst : st0 = As.reverse ++ st) (hd : decode cc pc = .ok (.invokestatic index, 3)) (k : XW E K nL N cells slots G' (pc + 3) L st) : XW E K nL N cells slots G pc L st0 := x_callSN C hM hl hN hR9 hn hw hst hd k
theorem x_cSN1 {E : XE} {K : XK} {nL N cells slots : Nat} {G : GW} {pc : Nat} {L : List (Nat × Value)} {st : List Value} {cc : ByteArray} {own : String} {ret : Option FieldType} {fr lo mc ms : Nat} (C : XC E K cc nL own ret fr lo mc ms) {v : Value} {index n : Nat} {y : MethodName} {bytes : ByteArray} {maxL' : Nat} {ret' : Option FieldType} {fr' lo' : Nat} {As : List Value} {G' : GW} {st0 : List Value} {host : String} (hM : MF E y bytes maxL' ret' fr' lo' 0 0 As N G (some v) G') (hl : XSN own index y host bytes maxL' ret' n) (hN : xB E ≤ N) (hR9 : XR fr lo mc ms cells slots fr' lo' maxL' 0 0 = true) (hn : As.length = n) (hw : Nat.ble ((st.map fun v => v.category).sum) 8 = true) (hst : st0 = As.reverse ++ st) (hd : decode cc pc = .ok (.invokestatic index, 3)) (k : XW E K nL N cells slots G' (pc + 3) L (v :: st)) : XW E K nL N cells slots G pc L st0 := x_callSN C hM hl hN hR9 hn hw hst hd k
def bI (b : Bool) : Int32 := if b = true then 1 else 0
theorem x_t_if_eq {E : XE} {K : XK} {nL N cells slots : Nat} {G : GW} {pc : Nat} {L : List (Nat × Value)} {st : List Value} {cc : ByteArray} {own : String} {ret : Option FieldType} {fr lo mc ms : Nat} (C : XC E K cc nL own ret fr lo mc ms) {x : Int32} {off off2 : Int} {na nb : Int} (t1 t2 : Nat) (va vb : Int32) (hd : decode cc pc = .ok (.ifCond .eq off, 3)) (ht : (pc : Int) + off = (t1 : Int)) (d2 : decode cc (pc + 3) = .ok (.iconst na, 1)) (hva : Int32.ofInt na = va) (d3 : decode cc (pc + 3 + 1) = .ok (.goto off2, 3)) (ht2 : ((pc + 3 + 1 : Nat) : Int) + off2 = (t2 : Int)) (d4 : decode cc t1 = .ok (.iconst nb, 1)) (hvb : Int32.ofInt nb = vb) (hm : t1 + 1 = t2) (k : XW E K nL N cells slots G t2 L (.int (if x = 0 then vb else va) :: st)) : XW E K nL N cells slots G pc L (.int x :: st) := by
  subst hm
  refine x_if_eq C t1 hd ht (fun c => ?_) (fun c => ?_)
  · refine x_iconst C vb d4 hvb (x_v ?_ k)
    rw [if_pos c]
  · refine x_iconst C va d2 hva (x_goto C (t1 + 1) d3 ht2 (x_v ?_ k))
    rw [if_neg c]
theorem x_t_icmp_eq {E : XE} {K : XK} {nL N cells slots : Nat} {G : GW} {pc : Nat} {L : List (Nat × Value)} {st : List Value} {cc : ByteArray} {own : String} {ret : Option FieldType} {fr lo mc ms : Nat} (C : XC E K cc nL own ret fr lo mc ms) {x y : Int32} {off off2 : Int} {na nb : Int} (t1 t2 : Nat) (va vb : Int32) (hd : decode cc pc = .ok (.if_icmp .eq off, 3)) (ht : (pc : Int) + off = (t1 : Int)) (d2 : decode cc (pc + 3) = .ok (.iconst na, 1)) (hva : Int32.ofInt na = va) (d3 : decode cc (pc + 3 + 1) = .ok (.goto off2, 3)) (ht2 : ((pc + 3 + 1 : Nat) : Int) + off2 = (t2 : Int)) (d4 : decode cc t1 = .ok (.iconst nb, 1)) (hvb : Int32.ofInt nb = vb) (hm : t1 + 1 = t2) (k : XW E K nL N cells slots G t2 L (.int (if x = y then vb else va) :: st)) : XW E K nL N cells slots G pc L (.int y :: .int x :: st) := by
  subst hm
  refine x_icmp_eq C t1 hd ht (fun c => ?_) (fun c => ?_)
  · refine x_iconst C vb d4 hvb (x_v ?_ k)
    rw [if_pos c]
  · refine x_iconst C va d2 hva (x_goto C (t1 + 1) d3 ht2 (x_v ?_ k))
    rw [if_neg c]
theorem x_t_if_ne {E : XE} {K : XK} {nL N cells slots : Nat} {G : GW} {pc : Nat} {L : List (Nat × Value)} {st : List Value} {cc : ByteArray} {own : String} {ret : Option FieldType} {fr lo mc ms : Nat} (C : XC E K cc nL own ret fr lo mc ms) {x : Int32} {off off2 : Int} {na nb : Int} (t1 t2 : Nat) (va vb : Int32) (hd : decode cc pc = .ok (.ifCond .ne off, 3)) (ht : (pc : Int) + off = (t1 : Int)) (d2 : decode cc (pc + 3) = .ok (.iconst na, 1)) (hva : Int32.ofInt na = va) (d3 : decode cc (pc + 3 + 1) = .ok (.goto off2, 3)) (ht2 : ((pc + 3 + 1 : Nat) : Int) + off2 = (t2 : Int)) (d4 : decode cc t1 = .ok (.iconst nb, 1)) (hvb : Int32.ofInt nb = vb) (hm : t1 + 1 = t2) (k : XW E K nL N cells slots G t2 L (.int (if ¬ x = 0 then vb else va) :: st)) : XW E K nL N cells slots G pc L (.int x :: st) := by
  subst hm
  refine x_if_ne C t1 hd ht (fun c => ?_) (fun c => ?_)
  · refine x_iconst C vb d4 hvb (x_v ?_ k)
    rw [if_pos c]
  · refine x_iconst C va d2 hva (x_goto C (t1 + 1) d3 ht2 (x_v ?_ k))
    rw [if_neg (fun h => h c)]
theorem x_t_icmp_ne {E : XE} {K : XK} {nL N cells slots : Nat} {G : GW} {pc : Nat} {L : List (Nat × Value)} {st : List Value} {cc : ByteArray} {own : String} {ret : Option FieldType} {fr lo mc ms : Nat} (C : XC E K cc nL own ret fr lo mc ms) {x y : Int32} {off off2 : Int} {na nb : Int} (t1 t2 : Nat) (va vb : Int32) (hd : decode cc pc = .ok (.if_icmp .ne off, 3)) (ht : (pc : Int) + off = (t1 : Int)) (d2 : decode cc (pc + 3) = .ok (.iconst na, 1)) (hva : Int32.ofInt na = va) (d3 : decode cc (pc + 3 + 1) = .ok (.goto off2, 3)) (ht2 : ((pc + 3 + 1 : Nat) : Int) + off2 = (t2 : Int)) (d4 : decode cc t1 = .ok (.iconst nb, 1)) (hvb : Int32.ofInt nb = vb) (hm : t1 + 1 = t2) (k : XW E K nL N cells slots G t2 L (.int (if ¬ x = y then vb else va) :: st)) : XW E K nL N cells slots G pc L (.int y :: .int x :: st) := by
  subst hm
  refine x_icmp_ne C t1 hd ht (fun c => ?_) (fun c => ?_)
  · refine x_iconst C vb d4 hvb (x_v ?_ k)
    rw [if_pos c]
  · refine x_iconst C va d2 hva (x_goto C (t1 + 1) d3 ht2 (x_v ?_ k))
    rw [if_neg (fun h => h c)]
theorem x_t_if_lt {E : XE} {K : XK} {nL N cells slots : Nat} {G : GW} {pc : Nat} {L : List (Nat × Value)} {st : List Value} {cc : ByteArray} {own : String} {ret : Option FieldType} {fr lo mc ms : Nat} (C : XC E K cc nL own ret fr lo mc ms) {x : Int32} {off off2 : Int} {na nb : Int} (t1 t2 : Nat) (va vb : Int32) (hd : decode cc pc = .ok (.ifCond .lt off, 3)) (ht : (pc : Int) + off = (t1 : Int)) (d2 : decode cc (pc + 3) = .ok (.iconst na, 1)) (hva : Int32.ofInt na = va) (d3 : decode cc (pc + 3 + 1) = .ok (.goto off2, 3)) (ht2 : ((pc + 3 + 1 : Nat) : Int) + off2 = (t2 : Int)) (d4 : decode cc t1 = .ok (.iconst nb, 1)) (hvb : Int32.ofInt nb = vb) (hm : t1 + 1 = t2) (k : XW E K nL N cells slots G t2 L (.int (if x < 0 then vb else va) :: st)) : XW E K nL N cells slots G pc L (.int x :: st) := by
  subst hm
  refine x_if_lt C t1 hd ht (fun c => ?_) (fun c => ?_)
  · refine x_iconst C vb d4 hvb (x_v ?_ k)
    rw [if_pos c]
  · refine x_iconst C va d2 hva (x_goto C (t1 + 1) d3 ht2 (x_v ?_ k))
    rw [if_neg c]
theorem x_t_icmp_lt {E : XE} {K : XK} {nL N cells slots : Nat} {G : GW} {pc : Nat} {L : List (Nat × Value)} {st : List Value} {cc : ByteArray} {own : String} {ret : Option FieldType} {fr lo mc ms : Nat} (C : XC E K cc nL own ret fr lo mc ms) {x y : Int32} {off off2 : Int} {na nb : Int} (t1 t2 : Nat) (va vb : Int32) (hd : decode cc pc = .ok (.if_icmp .lt off, 3)) (ht : (pc : Int) + off = (t1 : Int)) (d2 : decode cc (pc + 3) = .ok (.iconst na, 1)) (hva : Int32.ofInt na = va) (d3 : decode cc (pc + 3 + 1) = .ok (.goto off2, 3)) (ht2 : ((pc + 3 + 1 : Nat) : Int) + off2 = (t2 : Int)) (d4 : decode cc t1 = .ok (.iconst nb, 1)) (hvb : Int32.ofInt nb = vb) (hm : t1 + 1 = t2) (k : XW E K nL N cells slots G t2 L (.int (if x < y then vb else va) :: st)) : XW E K nL N cells slots G pc L (.int y :: .int x :: st) := by
  subst hm
  refine x_icmp_lt C t1 hd ht (fun c => ?_) (fun c => ?_)
  · refine x_iconst C vb d4 hvb (x_v ?_ k)
    rw [if_pos c]
  · refine x_iconst C va d2 hva (x_goto C (t1 + 1) d3 ht2 (x_v ?_ k))
    rw [if_neg c]
theorem x_t_if_ge {E : XE} {K : XK} {nL N cells slots : Nat} {G : GW} {pc : Nat} {L : List (Nat × Value)} {st : List Value} {cc : ByteArray} {own : String} {ret : Option FieldType} {fr lo mc ms : Nat} (C : XC E K cc nL own ret fr lo mc ms) {x : Int32} {off off2 : Int} {na nb : Int} (t1 t2 : Nat) (va vb : Int32) (hd : decode cc pc = .ok (.ifCond .ge off, 3)) (ht : (pc : Int) + off = (t1 : Int)) (d2 : decode cc (pc + 3) = .ok (.iconst na, 1)) (hva : Int32.ofInt na = va) (d3 : decode cc (pc + 3 + 1) = .ok (.goto off2, 3)) (ht2 : ((pc + 3 + 1 : Nat) : Int) + off2 = (t2 : Int)) (d4 : decode cc t1 = .ok (.iconst nb, 1)) (hvb : Int32.ofInt nb = vb) (hm : t1 + 1 = t2) (k : XW E K nL N cells slots G t2 L (.int (if 0 ≤ x then vb else va) :: st)) : XW E K nL N cells slots G pc L (.int x :: st) := by
  subst hm
  refine x_if_ge C t1 hd ht (fun c => ?_) (fun c => ?_)
  · refine x_iconst C vb d4 hvb (x_v ?_ k)
    rw [if_pos c]
  · refine x_iconst C va d2 hva (x_goto C (t1 + 1) d3 ht2 (x_v ?_ k))
    rw [if_neg c]
theorem x_t_icmp_ge {E : XE} {K : XK} {nL N cells slots : Nat} {G : GW} {pc : Nat} {L : List (Nat × Value)} {st : List Value} {cc : ByteArray} {own : String} {ret : Option FieldType} {fr lo mc ms : Nat} (C : XC E K cc nL own ret fr lo mc ms) {x y : Int32} {off off2 : Int} {na nb : Int} (t1 t2 : Nat) (va vb : Int32) (hd : decode cc pc = .ok (.if_icmp .ge off, 3)) (ht : (pc : Int) + off = (t1 : Int)) (d2 : decode cc (pc + 3) = .ok (.iconst na, 1)) (hva : Int32.ofInt na = va) (d3 : decode cc (pc + 3 + 1) = .ok (.goto off2, 3)) (ht2 : ((pc + 3 + 1 : Nat) : Int) + off2 = (t2 : Int)) (d4 : decode cc t1 = .ok (.iconst nb, 1)) (hvb : Int32.ofInt nb = vb) (hm : t1 + 1 = t2) (k : XW E K nL N cells slots G t2 L (.int (if y ≤ x then vb else va) :: st)) : XW E K nL N cells slots G pc L (.int y :: .int x :: st) := by
  subst hm
  refine x_icmp_ge C t1 hd ht (fun c => ?_) (fun c => ?_)
  · refine x_iconst C vb d4 hvb (x_v ?_ k)
    rw [if_pos c]
  · refine x_iconst C va d2 hva (x_goto C (t1 + 1) d3 ht2 (x_v ?_ k))
    rw [if_neg c]
theorem x_t_if_gt {E : XE} {K : XK} {nL N cells slots : Nat} {G : GW} {pc : Nat} {L : List (Nat × Value)} {st : List Value} {cc : ByteArray} {own : String} {ret : Option FieldType} {fr lo mc ms : Nat} (C : XC E K cc nL own ret fr lo mc ms) {x : Int32} {off off2 : Int} {na nb : Int} (t1 t2 : Nat) (va vb : Int32) (hd : decode cc pc = .ok (.ifCond .gt off, 3)) (ht : (pc : Int) + off = (t1 : Int)) (d2 : decode cc (pc + 3) = .ok (.iconst na, 1)) (hva : Int32.ofInt na = va) (d3 : decode cc (pc + 3 + 1) = .ok (.goto off2, 3)) (ht2 : ((pc + 3 + 1 : Nat) : Int) + off2 = (t2 : Int)) (d4 : decode cc t1 = .ok (.iconst nb, 1)) (hvb : Int32.ofInt nb = vb) (hm : t1 + 1 = t2) (k : XW E K nL N cells slots G t2 L (.int (if 0 < x then vb else va) :: st)) : XW E K nL N cells slots G pc L (.int x :: st) := by
  subst hm
  refine x_if_gt C t1 hd ht (fun c => ?_) (fun c => ?_)
  · refine x_iconst C vb d4 hvb (x_v ?_ k)
    rw [if_pos c]
  · refine x_iconst C va d2 hva (x_goto C (t1 + 1) d3 ht2 (x_v ?_ k))
    rw [if_neg c]
theorem x_t_icmp_gt {E : XE} {K : XK} {nL N cells slots : Nat} {G : GW} {pc : Nat} {L : List (Nat × Value)} {st : List Value} {cc : ByteArray} {own : String} {ret : Option FieldType} {fr lo mc ms : Nat} (C : XC E K cc nL own ret fr lo mc ms) {x y : Int32} {off off2 : Int} {na nb : Int} (t1 t2 : Nat) (va vb : Int32) (hd : decode cc pc = .ok (.if_icmp .gt off, 3)) (ht : (pc : Int) + off = (t1 : Int)) (d2 : decode cc (pc + 3) = .ok (.iconst na, 1)) (hva : Int32.ofInt na = va) (d3 : decode cc (pc + 3 + 1) = .ok (.goto off2, 3)) (ht2 : ((pc + 3 + 1 : Nat) : Int) + off2 = (t2 : Int)) (d4 : decode cc t1 = .ok (.iconst nb, 1)) (hvb : Int32.ofInt nb = vb) (hm : t1 + 1 = t2) (k : XW E K nL N cells slots G t2 L (.int (if y < x then vb else va) :: st)) : XW E K nL N cells slots G pc L (.int y :: .int x :: st) := by
  subst hm
  refine x_icmp_gt C t1 hd ht (fun c => ?_) (fun c => ?_)
  · refine x_iconst C vb d4 hvb (x_v ?_ k)
    rw [if_pos c]
  · refine x_iconst C va d2 hva (x_goto C (t1 + 1) d3 ht2 (x_v ?_ k))
    rw [if_neg c]
theorem x_t_if_le {E : XE} {K : XK} {nL N cells slots : Nat} {G : GW} {pc : Nat} {L : List (Nat × Value)} {st : List Value} {cc : ByteArray} {own : String} {ret : Option FieldType} {fr lo mc ms : Nat} (C : XC E K cc nL own ret fr lo mc ms) {x : Int32} {off off2 : Int} {na nb : Int} (t1 t2 : Nat) (va vb : Int32) (hd : decode cc pc = .ok (.ifCond .le off, 3)) (ht : (pc : Int) + off = (t1 : Int)) (d2 : decode cc (pc + 3) = .ok (.iconst na, 1)) (hva : Int32.ofInt na = va) (d3 : decode cc (pc + 3 + 1) = .ok (.goto off2, 3)) (ht2 : ((pc + 3 + 1 : Nat) : Int) + off2 = (t2 : Int)) (d4 : decode cc t1 = .ok (.iconst nb, 1)) (hvb : Int32.ofInt nb = vb) (hm : t1 + 1 = t2) (k : XW E K nL N cells slots G t2 L (.int (if x ≤ 0 then vb else va) :: st)) : XW E K nL N cells slots G pc L (.int x :: st) := by
  subst hm
  refine x_if_le C t1 hd ht (fun c => ?_) (fun c => ?_)
  · refine x_iconst C vb d4 hvb (x_v ?_ k)
    rw [if_pos c]
  · refine x_iconst C va d2 hva (x_goto C (t1 + 1) d3 ht2 (x_v ?_ k))
    rw [if_neg c]
theorem x_t_icmp_le {E : XE} {K : XK} {nL N cells slots : Nat} {G : GW} {pc : Nat} {L : List (Nat × Value)} {st : List Value} {cc : ByteArray} {own : String} {ret : Option FieldType} {fr lo mc ms : Nat} (C : XC E K cc nL own ret fr lo mc ms) {x y : Int32} {off off2 : Int} {na nb : Int} (t1 t2 : Nat) (va vb : Int32) (hd : decode cc pc = .ok (.if_icmp .le off, 3)) (ht : (pc : Int) + off = (t1 : Int)) (d2 : decode cc (pc + 3) = .ok (.iconst na, 1)) (hva : Int32.ofInt na = va) (d3 : decode cc (pc + 3 + 1) = .ok (.goto off2, 3)) (ht2 : ((pc + 3 + 1 : Nat) : Int) + off2 = (t2 : Int)) (d4 : decode cc t1 = .ok (.iconst nb, 1)) (hvb : Int32.ofInt nb = vb) (hm : t1 + 1 = t2) (k : XW E K nL N cells slots G t2 L (.int (if x ≤ y then vb else va) :: st)) : XW E K nL N cells slots G pc L (.int y :: .int x :: st) := by
  subst hm
  refine x_icmp_le C t1 hd ht (fun c => ?_) (fun c => ?_)
  · refine x_iconst C vb d4 hvb (x_v ?_ k)
    rw [if_pos c]
  · refine x_iconst C va d2 hva (x_goto C (t1 + 1) d3 ht2 (x_v ?_ k))
    rw [if_neg c]
theorem x_ifb_eq {E : XE} {K : XK} {nL N cells slots : Nat} {G : GW} {pc : Nat} {L : List (Nat × Value)} {st : List Value} {cc : ByteArray} {own : String} {ret : Option FieldType} {fr lo mc ms : Nat} (C : XC E K cc nL own ret fr lo mc ms) {x : Bool} {off : Int} (tgt : Nat) (hd : decode cc pc = .ok (.ifCond .eq off, 3)) (ht : (pc : Int) + off = (tgt : Int)) (kt : x = false → XW E K nL N cells slots G tgt L st) (kf : x = true → XW E K nL N cells slots G (pc + 3) L st) : XW E K nL N cells slots G pc L (.int (bI x) :: st) := by
  cases x
  · exact x_if_eq C tgt hd ht (fun _ => kt rfl) (fun c => absurd rfl c)
  · exact x_if_eq C tgt hd ht (fun c => absurd c (by decide)) (fun _ => kf rfl)
theorem x_ifb_ne {E : XE} {K : XK} {nL N cells slots : Nat} {G : GW} {pc : Nat} {L : List (Nat × Value)} {st : List Value} {cc : ByteArray} {own : String} {ret : Option FieldType} {fr lo mc ms : Nat} (C : XC E K cc nL own ret fr lo mc ms) {x : Bool} {off : Int} (tgt : Nat) (hd : decode cc pc = .ok (.ifCond .ne off, 3)) (ht : (pc : Int) + off = (tgt : Int)) (kt : x = true → XW E K nL N cells slots G tgt L st) (kf : x = false → XW E K nL N cells slots G (pc + 3) L st) : XW E K nL N cells slots G pc L (.int (bI x) :: st) := by
  cases x
  · exact x_if_ne C tgt hd ht (fun c => absurd rfl c) (fun _ => kf rfl)
  · exact x_if_ne C tgt hd ht (fun _ => kt rfl) (fun c => absurd c (by decide))
theorem vp_in_lt {x M : Int32} {n : Nat} (hM : M.toInt = n) (h1 : ¬ x < 0) (h2 : ¬ M ≤ x) : vp_in x n := by
  rw [vp_in_iff]
  have a : ¬ x.toInt < (0 : Int32).toInt := fun h => h1 (Int32.lt_iff_toInt_lt.mpr h)
  have b : ¬ M.toInt ≤ x.toInt := fun h => h2 (Int32.le_iff_toInt_le.mpr h)
  rw [hM] at b
  have z : (0 : Int32).toInt = 0 := rfl
  rw [z] at a
  omega
theorem vp_in_and63 (x : Int32) : vp_in (x &&& 63) 64 := pk_andIn x 6 (by decide) (by decide)
def iabs (x : Int32) : Int32 := if 0 ≤ x then x else 0 - x
def imax (x y : Int32) : Int32 := if x < y then y else x
def imin (x y : Int32) : Int32 := if y < x then y else x
def inR (x lo hi : Int32) : Bool := !decide (x < lo) && !decide (hi < x)
end
section
/-! ===== the class's small functions ===== -/
def jth (g x : Int32) : Int32 := g * x / 1000
/-- a number held by a shape -/
def shp (x sh li : Int32) : Int32 :=
  let a := iabs x
  let h := if sh = 1 then (if a ≤ li / 2 then a else imin (li / 2 + (a - li / 2) / 2) li) else (if a ≤ li then a else if sh = 2 then 0 else li)
  if 0 ≤ x then h else -h
def rIx (fi i : Int32) : Nat := ((fi + i) &&& 63).toNatClampNeg
def rAt (w : Nat → Int32) (fi le i : Int32) : Int32 := if i < 0 then 0 else if i < le then w (rIx fi i) else 0
def rowOk (x : Int32) : Bool := !decide (x < 0) && !decide (5 ≤ x)
theorem bI_n (b : Bool) : narrow .boolean (.int (bI b)) = .int (bI b) := by cases b <;> rfl
def eSam (x : Int32) : Int32 := if inR x (-20000) 20000 = true then 0 else -1000001
def eSil (x : Int32) : Int32 := if inR x 1 200 = true then 0 else -1000001
def eTap (t d g : Int32) : Int32 := if inR t 0 3 = true then if inR d 1 64 = true then if inR g (-900) 900 = true then 0 else -1000001 else -1000001 else -1000001
def eFee (d g : Int32) : Int32 := if inR d 1 64 = true then if inR g 0 950 = true then 0 else -1000001 else -1000001
def eSte (w o : Int32) : Int32 := if inR w 1 48 = true then if o + w ≤ 48 then 0 else -1000003 else -1000001
def eGiv (w o : Int32) : Int32 := if inR w 1 48 = true then if w ≤ o then 0 else -1000002 else -1000001
def okSet (w v : Int32) : Bool := if w = 0 then inR v 100 30000 else if w = 1 then inR v 0 2 else false
theorem vp_in_d {x : Int32} {n : Nat} (h : (decide (0 ≤ x.toInt) && decide (x.toInt < (n : Int))) = true) : vp_in x n := by
  rw [Bool.and_eq_true, decide_eq_true_eq, decide_eq_true_eq] at h
  exact vp_in_iff.mpr h
theorem vp_in_lt2 {x M : Int32} {n : Nat} (hM : M.toInt = n) (h1 : ¬ x < 0) (h2 : x < M) : vp_in x n := vp_in_lt hM h1 (fun h => absurd (Int32.lt_iff_toInt_lt.mp h2) (by have := Int32.le_iff_toInt_le.mp h; omega))
/-- Math.floorMod -/
def jfm (x y : Int32) : Int32 := let r := x - x / y * y; if 0 ≤ (x ^^^ y) then r else if r = 0 then r else r + y
def rFi (fi : Int32) : Int32 := (fi - 1) &&& 63
def rWr (w : Nat → Int32) (fi x : Int32) : Nat → Int32 := upd w (rFi fi &&& 63).toNatClampNeg x
def rZf (w : Nat → Int32) (fi : Int32) (l : Nat) : Nat → (Nat → Int32)
  | 0 => w
  | n + 1 => upd (rZf w fi l n) ((fi + nI (l + n)) &&& 63).toNatClampNeg 0
def cntAb (f : Nat → Int32) (a : Int32) : Nat → Int32
  | 0 => 0
  | n + 1 => cntAb f a n + (if iabs (f n) ≤ a then 0 else 1)
def sumAb (f : Nat → Int32) : Nat → Int32
  | 0 => 0
  | n + 1 => sumAb f n + iabs (f n)
def oNx (ne : Int32) : Int32 := if ne < 0 then 0 else if ne < 12 then ne else 0
def tAt (ch : Nat → Int32) (tl p : Int32) : Int32 := if p < 0 then -1 else if tl ≤ p then -1 else if p < 60 then ch p.toNatClampNeg else -1
def nAt (nu : Nat → Int32) (i : Int32) : Int32 := if i < 0 then 0 else if 3 ≤ i then 0 else nu i.toNatClampNeg
def isDg (c : Int32) : Bool := !decide (c < 48) && !decide (57 < c)
theorem imin64 {l k : Nat} (h : l + k ≤ 64) : (if (64 : Int32) < nI l + nI k then 64 else nI l + nI k) = nI (l + k) := by
  rw [nI_add, if_neg (show ¬ (64 : Int32) < nI (l + k) from nI_nlt (a := 64) h (by omega))]
theorem not_le_of_lt32 {a b : Int32} (h : a < b) : ¬ b ≤ a := fun q => by
  have h1 := Int32.lt_iff_toInt_lt.mp h
  have h2 := Int32.le_iff_toInt_le.mp q
  omega
def oAt (ro : Nat → Int32) (ne ke x : Int32) : Int32 := if x < 0 then 0 else if x < ke then ro (jfm (ne - 1 - x) 12).toNatClampNeg else 0
theorem jfm_in12 (x : Int32) : vp_in (jfm x 12) 12 := by sorry
set_option maxRecDepth 100000 in
set_option maxHeartbeats 4000000 in
theorem c_X8_isWithin (E : XE) (N : Nat) (G : GW) (x lo_ hi_ : Int32) : MF E yX8_isWithin cX8_isWithin 3 (some .boolean) 0 0 0 0 [.int x, .int lo_, .int hi_] N (G) (some (.int (bI (inR x lo_ hi_)))) (G) := by
  refine MF.mk RX8 rfl (by decide +kernel) rfl (fun K C Z hin hN => ?_)
  show XW E K 3 N 0 0 _ 0 [(0, .int x), (1, .int lo_), (2, .int hi_)] []
  refine x_iload_n C dX8_isWithin_0 0 rfl ?_
  refine x_iload_n C dX8_isWithin_1 1 rfl ?_
  refine x_icmp_lt C 14 dX8_isWithin_2 rfl (fun c2 => ?_) (fun c2 => ?_)
  · refine x_iconst C 0 dX8_isWithin_14 rfl ?_
    exact x_iret C Z rfl rfl (by simp [bI, inR, c2]) rfl dX8_isWithin_15
  · refine x_iload_n C dX8_isWithin_5 0 rfl ?_
    refine x_iload_n C dX8_isWithin_6 2 rfl ?_
    refine x_icmp_gt C 14 dX8_isWithin_7 rfl (fun c7 => ?_) (fun c7 => ?_)
    · refine x_iconst C 0 dX8_isWithin_14 rfl ?_
      exact x_iret C Z rfl rfl (by simp [bI, inR, c2, c7]) rfl dX8_isWithin_15
    · refine x_iconst C 1 dX8_isWithin_10 rfl ?_
      refine x_goto C 15 dX8_isWithin_11 rfl ?_
      exact x_iret C Z rfl rfl (by simp [bI, inR, c2, c7]) rfl dX8_isWithin_15

set_option maxRecDepth 100000 in
set_option maxHeartbeats 4000000 in
theorem c_X8_isTap (E : XE) (N : Nat) (G : GW) (x : Int32) : MF E yX8_isTap cX8_isTap 1 (some .boolean) 1 22 0 0 [.int x] N (G) (some (.int (bI (inR x 0 3)))) (G) := by
  refine MF.mk RX8 rfl (by decide +kernel) rfl (fun K C Z hin hN => ?_)
  show XW E K 1 N 0 0 _ 0 [(0, .int x)] []
  refine x_iload_n C dX8_isTap_0 0 rfl ?_
  refine x_iconst C 0 dX8_isTap_1 rfl ?_
  refine x_iconst C 3 dX8_isTap_2 rfl ?_
  refine x_cS1 C (c_X8_isWithin E N _ x 0 3) v_X8_140 hN rfl rfl rfl rfl dX8_isTap_3 ?_
  exact x_iret C Z rfl (bI_n _) rfl rfl dX8_isTap_6

set_option maxRecDepth 100000 in
set_option maxHeartbeats 4000000 in
theorem c_X8_isSample (E : XE) (N : Nat) (G : GW) (x : Int32) : MF E yX8_isSample cX8_isSample 1 (some .boolean) 1 22 0 0 [.int x] N (G) (some (.int (bI (inR x (-20000) 20000)))) (G) := by
  refine MF.mk RX8 rfl (by decide +kernel) rfl (fun K C Z hin hN => ?_)
  show XW E K 1 N 0 0 _ 0 [(0, .int x)] []
  refine x_iload_n C dX8_isSample_0 0 rfl ?_
  refine x_sipush C (-20000) dX8_isSample_1 rfl ?_
  refine x_sipush C 20000 dX8_isSample_4 rfl ?_
  refine x_cS1 C (c_X8_isWithin E N _ x (-20000) 20000) v_X8_140 hN rfl rfl rfl rfl dX8_isSample_7 ?_
  exact x_iret C Z rfl (bI_n _) rfl rfl dX8_isSample_10

set_option maxRecDepth 100000 in
set_option maxHeartbeats 4000000 in
theorem c_X8_thousandths (E : XE) (N : Nat) (G : GW) (g x : Int32) : MF E yX8_thousandths cX8_thousandths 2 (some .int) 0 0 0 0 [.int g, .int x] N (G) (some (.int (jth g x))) (G) := by
  refine MF.mk RX8 rfl (by decide +kernel) rfl (fun K C Z hin hN => ?_)
  show XW E K 2 N 0 0 _ 0 [(0, .int g), (1, .int x)] []
  refine x_iload_n C dX8_thousandths_0 0 rfl ?_
  refine x_iload_n C dX8_thousandths_1 1 rfl ?_
  refine x_imul C dX8_thousandths_2 ?_
  refine x_sipush C 1000 dX8_thousandths_3 rfl ?_
  refine x_idiv C dX8_thousandths_6 (by decide) ?_
  exact x_iret C Z rfl rfl rfl rfl dX8_thousandths_7

set_option maxRecDepth 100000 in
set_option maxHeartbeats 4000000 in
theorem c_X8_shaped (E : XE) (N : Nat) (G : GW) (x sh li : Int32) : MF E yX8_shaped cX8_shaped 6 (some .int) 1 21 0 0 [.int x, .int sh, .int li] N (G) (some (.int (shp x sh li))) (G) := by
  refine MF.mk RX8 rfl (by decide +kernel) rfl (fun K C Z hin hN => ?_)
  show XW E K 6 N 0 0 _ 0 [(0, .int x), (1, .int sh), (2, .int li)] []
  refine x_iload_n C dX8_shaped_0 0 rfl ?_
  refine x_mabs C m_235 rfl rfl rfl rfl dX8_shaped_1 ?_
  refine x_istore_n (L' := [(3, .int (iabs x)), (0, .int x), (1, .int sh), (2, .int li)]) C dX8_shaped_4 rfl rfl ?_
  refine x_iload_n C dX8_shaped_5 0 rfl ?_
  refine x_istore (L' := [(4, .int (iabs x)), (3, .int (iabs x)), (0, .int x), (1, .int sh), (2, .int li)]) C dX8_shaped_6 rfl rfl ?_
  refine x_iload_n C dX8_shaped_8 3 rfl ?_
  refine x_iconst C 1 dX8_shaped_9 rfl ?_
  refine x_icmp_ne C 42 dX8_shaped_10 rfl (fun c10 => ?_) (fun c10 => ?_)
  · refine x_iload_n C dX8_shaped_42 1 rfl ?_
    refine x_iload_n C dX8_shaped_43 4 rfl ?_
    refine x_icmp_le C 59 dX8_shaped_44 rfl (fun c44 => ?_) (fun c44 => ?_)
    · refine x_iload_n C dX8_shaped_59 2 rfl ?_
      refine x_if_ge C 69 dX8_shaped_60 rfl (fun c60 => ?_) (fun c60 => ?_)
      · refine x_iload C dX8_shaped_69 0 rfl ?_
        exact x_iret C Z rfl rfl (by simp [shp, imin, c10, c44, c60]) rfl dX8_shaped_71
      · refine x_iload C dX8_shaped_63 0 rfl ?_
        refine x_ineg C dX8_shaped_65 ?_
        refine x_goto C 71 dX8_shaped_66 rfl ?_
        exact x_iret C Z rfl rfl (by simp [shp, imin, c10, c44, c60]) rfl dX8_shaped_71
    · refine x_iload_n C dX8_shaped_47 3 rfl ?_
      refine x_iconst C 2 dX8_shaped_48 rfl ?_
      refine x_icmp_ne C 56 dX8_shaped_49 rfl (fun c49 => ?_) (fun c49 => ?_)
      · refine x_iload_n C dX8_shaped_56 4 rfl ?_
        refine x_istore (L' := [(4, .int li), (3, .int (iabs x)), (0, .int x), (1, .int sh), (2, .int li)]) C dX8_shaped_57 rfl rfl ?_
        refine x_iload_n C dX8_shaped_59 2 rfl ?_
        refine x_if_ge C 69 dX8_shaped_60 rfl (fun c60 => ?_) (fun c60 => ?_)
        · refine x_iload C dX8_shaped_69 0 rfl ?_
          exact x_iret C Z rfl rfl (by simp [shp, imin, c10, c44, c49, c60]) rfl dX8_shaped_71
        · refine x_iload C dX8_shaped_63 0 rfl ?_
          refine x_ineg C dX8_shaped_65 ?_
          refine x_goto C 71 dX8_shaped_66 rfl ?_
          exact x_iret C Z rfl rfl (by simp [shp, imin, c10, c44, c49, c60]) rfl dX8_shaped_71
      · refine x_iconst C 0 dX8_shaped_52 rfl ?_
        refine x_goto C 57 dX8_shaped_53 rfl ?_
        refine x_istore (L' := [(4, .int 0), (3, .int (iabs x)), (0, .int x), (1, .int sh), (2, .int li)]) C dX8_shaped_57 rfl rfl ?_
        refine x_iload_n C dX8_shaped_59 2 rfl ?_
        refine x_if_ge C 69 dX8_shaped_60 rfl (fun c60 => ?_) (fun c60 => ?_)
        · refine x_iload C dX8_shaped_69 0 rfl ?_
          exact x_iret C Z rfl rfl (by simp [shp, imin, c10, c44, c49, c60]) rfl dX8_shaped_71
        · refine x_iload C dX8_shaped_63 0 rfl ?_
          refine x_ineg C dX8_shaped_65 ?_
          refine x_goto C 71 dX8_shaped_66 rfl ?_
          exact x_iret C Z rfl rfl (by simp [shp, imin, c10, c44, c49, c60]) rfl dX8_shaped_71
  · refine x_iload_n C dX8_shaped_13 4 rfl ?_
    refine x_iconst C 2 dX8_shaped_14 rfl ?_
    refine x_idiv C dX8_shaped_15 (by decide) ?_
    refine x_istore (L' := [(5, .int (li / 2)), (4, .int (iabs x)), (3, .int (iabs x)), (0, .int x), (1, .int sh), (2, .int li)]) C dX8_shaped_16 rfl rfl ?_
    refine x_iload_n C dX8_shaped_18 2 rfl ?_
    refine x_iload C dX8_shaped_19 0 rfl ?_
    refine x_icmp_le C 39 dX8_shaped_21 rfl (fun c21 => ?_) (fun c21 => ?_)
    · refine x_goto C 59 dX8_shaped_39 rfl ?_
      refine x_iload_n C dX8_shaped_59 3 rfl ?_
      refine x_if_ge C 69 dX8_shaped_60 rfl (fun c60 => ?_) (fun c60 => ?_)
      · refine x_iload C dX8_shaped_69 1 rfl ?_
        exact x_iret C Z rfl rfl (by simp [shp, imin, c10, c21, c60]) rfl dX8_shaped_71
      · refine x_iload C dX8_shaped_63 1 rfl ?_
        refine x_ineg C dX8_shaped_65 ?_
        refine x_goto C 71 dX8_shaped_66 rfl ?_
        exact x_iret C Z rfl rfl (by simp [shp, imin, c10, c21, c60]) rfl dX8_shaped_71
    · refine x_iload C dX8_shaped_24 0 rfl ?_
      refine x_iload_n C dX8_shaped_26 2 rfl ?_
      refine x_iload C dX8_shaped_27 0 rfl ?_
      refine x_isub C dX8_shaped_29 ?_
      refine x_iconst C 2 dX8_shaped_30 rfl ?_
      refine x_idiv C dX8_shaped_31 (by decide) ?_
      refine x_iadd C dX8_shaped_32 ?_
      refine x_iload_n C dX8_shaped_33 5 rfl ?_
      refine x_mmin C m_238 rfl rfl rfl rfl dX8_shaped_34 ?_
      refine x_topi (fun z1 ez1 => ?_)
      refine x_istore (L' := [(4, .int z1), (5, .int (li / 2)), (3, .int (iabs x)), (0, .int x), (1, .int sh), (2, .int li)]) C dX8_shaped_37 rfl rfl ?_
      refine x_goto C 59 dX8_shaped_39 rfl ?_
      refine x_iload_n C dX8_shaped_59 3 rfl ?_
      refine x_if_ge C 69 dX8_shaped_60 rfl (fun c60 => ?_) (fun c60 => ?_)
      · refine x_iload C dX8_shaped_69 0 rfl ?_
        subst ez1
        exact x_iret C Z rfl rfl (by simp [shp, imin, c10, c21, c60]) rfl dX8_shaped_71
      · refine x_iload C dX8_shaped_63 0 rfl ?_
        refine x_ineg C dX8_shaped_65 ?_
        refine x_goto C 71 dX8_shaped_66 rfl ?_
        subst ez1
        exact x_iret C Z rfl rfl (by simp [shp, imin, c10, c21, c60]) rfl dX8_shaped_71

set_option maxRecDepth 100000 in
set_option maxHeartbeats 4000000 in
theorem c_X6_isRow (E : XE) (N : Nat) (G : GW) (x : Int32) : MF E yX6_isRow cX6_isRow 1 (some .boolean) 0 0 0 0 [.int x] N (G) (some (.int (bI (rowOk x)))) (G) := by
  refine MF.mk RX6 rfl (by decide +kernel) rfl (fun K C Z hin hN => ?_)
  show XW E K 1 N 0 0 _ 0 [(0, .int x)] []
  refine x_iload_n C dX6_isRow_0 0 rfl ?_
  refine x_if_lt C 13 dX6_isRow_1 rfl (fun c1 => ?_) (fun c1 => ?_)
  · refine x_iconst C 0 dX6_isRow_13 rfl ?_
    exact x_iret C Z rfl rfl (by simp [bI, rowOk, c1]) rfl dX6_isRow_14
  · refine x_iload_n C dX6_isRow_4 0 rfl ?_
    refine x_iconst C 5 dX6_isRow_5 rfl ?_
    refine x_icmp_ge C 13 dX6_isRow_6 rfl (fun c6 => ?_) (fun c6 => ?_)
    · refine x_iconst C 0 dX6_isRow_13 rfl ?_
      exact x_iret C Z rfl rfl (by simp [bI, rowOk, c1, c6]) rfl dX6_isRow_14
    · refine x_iconst C 1 dX6_isRow_9 rfl ?_
      refine x_goto C 14 dX6_isRow_10 rfl ?_
      exact x_iret C Z rfl rfl (by simp [bI, rowOk, c1, c6]) rfl dX6_isRow_14

set_option maxRecDepth 100000 in
set_option maxHeartbeats 4000000 in
theorem c_X5_wordAt (E : XE) (N b : Nat) (G : GW) (w : Nat → Int32) (fi le i : Int32) (hb_b : xB E ≤ b) (hn_b : b + 2 ≤ N) : MF E yX5_wordAt cX5_wordAt 2 (some .int) 0 0 0 0 [.ref b, .int i] N (ov b (ringC E b w fi le) G) (some (.int (rAt w fi le i))) (ov b (ringC E b w fi le) G) := by
  refine MF.mk RX5 rfl (by decide +kernel) rfl (fun K C Z hin hN => ?_)
  show XW E K 2 N 0 0 _ 0 [(0, .ref b), (1, .int i)] []
  refine x_iload_n C dX5_wordAt_0 1 rfl ?_
  refine x_if_lt C 12 dX5_wordAt_1 rfl (fun c1 => ?_) (fun c1 => ?_)
  · refine x_iconst C 0 dX5_wordAt_12 rfl ?_
    exact x_iret C Z rfl rfl (by simp [rAt, rIx, c1]) rfl dX5_wordAt_13
  · refine x_iload_n C dX5_wordAt_4 1 rfl ?_
    refine x_aload_n C dX5_wordAt_5 0 rfl ?_
    refine x_get C (xlo (i := 0) hb_b) (xhi (i := 0) hn_b rfl) (ov_at (i := 0) rfl) f_X5_15 rfl dX5_wordAt_6 ?_
    refine x_icmp_lt C 14 dX5_wordAt_9 rfl (fun c9 => ?_) (fun c9 => ?_)
    · refine x_aload_n C dX5_wordAt_14 0 rfl ?_
      refine x_get C (xlo (i := 0) hb_b) (xhi (i := 0) hn_b rfl) (ov_at (i := 0) rfl) f_X5_9 rfl dX5_wordAt_15 ?_
      refine x_aload_n C dX5_wordAt_18 0 rfl ?_
      refine x_get C (xlo (i := 0) hb_b) (xhi (i := 0) hn_b rfl) (ov_at (i := 0) rfl) f_X5_19 rfl dX5_wordAt_19 ?_
      refine x_iload_n C dX5_wordAt_22 1 rfl ?_
      refine x_iadd C dX5_wordAt_23 ?_
      refine x_bipush C 63 dX5_wordAt_24 rfl ?_
      refine x_iand C dX5_wordAt_26 ?_
      refine x_iald C (w ((fi + i) &&& 63).toNatClampNeg) (xlo (i := 1) hb_b) (xhi (i := 1) hn_b rfl) (ov_at (i := 1) rfl) (vp_in_and63 _) rfl dX5_wordAt_27 ?_
      exact x_iret C Z rfl rfl (by simp [rAt, rIx, c1, c9]) rfl dX5_wordAt_28
    · refine x_iconst C 0 dX5_wordAt_12 rfl ?_
      exact x_iret C Z rfl rfl (by simp [rAt, rIx, c1, c9]) rfl dX5_wordAt_13

set_option maxRecDepth 100000 in
set_option maxHeartbeats 4000000 in
theorem c_X8_isSetting (E : XE) (N : Nat) (G : GW) (w v : Int32) : MF E yX8_isSetting cX8_isSetting 2 (some .boolean) 1 22 0 0 [.int w, .int v] N (G) (some (.int (bI (okSet w v)))) (G) := by
  refine MF.mk RX8 rfl (by decide +kernel) rfl (fun K C Z hin hN => ?_)
  show XW E K 2 N 0 0 _ 0 [(0, .int w), (1, .int v)] []
  refine x_iload_n C dX8_isSetting_0 0 rfl ?_
  refine x_if_ne C 14 dX8_isSetting_1 rfl (fun c1 => ?_) (fun c1 => ?_)
  · refine x_iload_n C dX8_isSetting_14 0 rfl ?_
    refine x_iconst C 1 dX8_isSetting_15 rfl ?_
    refine x_icmp_ne C 32 dX8_isSetting_16 rfl (fun c16 => ?_) (fun c16 => ?_)
    · refine x_iconst C 0 dX8_isSetting_32 rfl ?_
      exact x_iret C Z rfl rfl (by simp [okSet, bI, c1, c16]) rfl dX8_isSetting_33
    · refine x_iload_n C dX8_isSetting_19 1 rfl ?_
      refine x_iconst C 0 dX8_isSetting_20 rfl ?_
      refine x_iconst C 2 dX8_isSetting_21 rfl ?_
      refine x_cS1 C (c_X8_isWithin E N _ v 0 2) v_X8_140 hN rfl rfl rfl rfl dX8_isSetting_22 ?_
      refine x_ifb_eq C 32 dX8_isSetting_25 rfl (fun c25 => ?_) (fun c25 => ?_)
      · refine x_iconst C 0 dX8_isSetting_32 rfl ?_
        exact x_iret C Z rfl rfl (by simp [okSet, bI, c1, c16, c25]) rfl dX8_isSetting_33
      · refine x_iconst C 1 dX8_isSetting_28 rfl ?_
        refine x_goto C 33 dX8_isSetting_29 rfl ?_
        exact x_iret C Z rfl rfl (by simp [okSet, bI, c1, c16, c25]) rfl dX8_isSetting_33
  · refine x_iload_n C dX8_isSetting_4 1 rfl ?_
    refine x_bipush C 100 dX8_isSetting_5 rfl ?_
    refine x_sipush C 30000 dX8_isSetting_7 rfl ?_
    refine x_cS1 C (c_X8_isWithin E N _ v 100 30000) v_X8_140 hN rfl rfl rfl rfl dX8_isSetting_10 ?_
    exact x_iret C Z rfl (bI_n _) (by simp [okSet, bI, c1]) rfl dX8_isSetting_13

set_option maxRecDepth 100000 in
set_option maxHeartbeats 4000000 in
theorem c_X8_sampleError (E : XE) (N : Nat) (G : GW) (x : Int32) : MF E yX8_sampleError cX8_sampleError 1 (some .int) 2 42 0 0 [.int x] N (G) (some (.int (eSam x))) (G) := by
  refine MF.mk RX8 rfl (by decide +kernel) rfl (fun K C Z hin hN => ?_)
  show XW E K 1 N 0 0 _ 0 [(0, .int x)] []
  refine x_iload_n C dX8_sampleError_0 0 rfl ?_
  refine x_cS1 C (c_X8_isSample E N _ x) v_X8_178 hN rfl rfl rfl rfl dX8_sampleError_1 ?_
  refine x_ifb_eq C 11 dX8_sampleError_4 rfl (fun c4 => ?_) (fun c4 => ?_)
  · refine x_ldc C (-1000001) m_180 dX8_sampleError_11 ?_
    exact x_iret C Z rfl rfl (by simp [eSam, c4]) rfl dX8_sampleError_13
  · refine x_iconst C 0 dX8_sampleError_7 rfl ?_
    refine x_goto C 13 dX8_sampleError_8 rfl ?_
    exact x_iret C Z rfl rfl (by simp [eSam, c4]) rfl dX8_sampleError_13

set_option maxRecDepth 100000 in
set_option maxHeartbeats 4000000 in
theorem c_X8_silenceError (E : XE) (N : Nat) (G : GW) (x : Int32) : MF E yX8_silenceError cX8_silenceError 1 (some .int) 1 22 0 0 [.int x] N (G) (some (.int (eSil x))) (G) := by
  refine MF.mk RX8 rfl (by decide +kernel) rfl (fun K C Z hin hN => ?_)
  show XW E K 1 N 0 0 _ 0 [(0, .int x)] []
  refine x_iload_n C dX8_silenceError_0 0 rfl ?_
  refine x_iconst C 1 dX8_silenceError_1 rfl ?_
  refine x_sipush C 200 dX8_silenceError_2 rfl ?_
  refine x_cS1 C (c_X8_isWithin E N _ x 1 200) v_X8_140 hN rfl rfl rfl rfl dX8_silenceError_5 ?_
  refine x_ifb_eq C 15 dX8_silenceError_8 rfl (fun c8 => ?_) (fun c8 => ?_)
  · refine x_ldc C (-1000001) m_180 dX8_silenceError_15 ?_
    exact x_iret C Z rfl rfl (by simp [eSil, c8]) rfl dX8_silenceError_17
  · refine x_iconst C 0 dX8_silenceError_11 rfl ?_
    refine x_goto C 17 dX8_silenceError_12 rfl ?_
    exact x_iret C Z rfl rfl (by simp [eSil, c8]) rfl dX8_silenceError_17

set_option maxRecDepth 100000 in
set_option maxHeartbeats 4000000 in
theorem c_X8_tapError (E : XE) (N : Nat) (G : GW) (t d g : Int32) : MF E yX8_tapError cX8_tapError 4 (some .int) 2 42 0 0 [.int t, .int d, .int g] N (G) (some (.int (eTap t d g))) (G) := by
  refine MF.mk RX8 rfl (by decide +kernel) rfl (fun K C Z hin hN => ?_)
  show XW E K 4 N 0 0 _ 0 [(0, .int t), (1, .int d), (2, .int g)] []
  refine x_iload_n C dX8_tapError_0 0 rfl ?_
  refine x_cS1 C (c_X8_isTap E N _ t) v_X8_76 hN rfl rfl rfl rfl dX8_tapError_1 ?_
  refine x_ifb_eq C 34 dX8_tapError_4 rfl (fun c4 => ?_) (fun c4 => ?_)
  · refine x_iconst C 0 dX8_tapError_34 rfl ?_
    refine x_istore_n (L' := [(3, .int 0), (0, .int t), (1, .int d), (2, .int g)]) C dX8_tapError_35 rfl rfl ?_
    refine x_iload_n C dX8_tapError_36 0 rfl ?_
    refine x_if_eq C 44 dX8_tapError_37 rfl (fun _ => ?_) (fun c => absurd c (by decide))
    refine x_ldc C (-1000001) m_180 dX8_tapError_44 ?_
    exact x_iret C Z rfl rfl (by simp [eTap, c4]) rfl dX8_tapError_46
  · refine x_iload_n C dX8_tapError_7 1 rfl ?_
    refine x_iconst C 1 dX8_tapError_8 rfl ?_
    refine x_bipush C 64 dX8_tapError_9 rfl ?_
    refine x_cS1 C (c_X8_isWithin E N _ d 1 64) v_X8_140 hN rfl rfl rfl rfl dX8_tapError_11 ?_
    refine x_ifb_eq C 34 dX8_tapError_14 rfl (fun c14 => ?_) (fun c14 => ?_)
    · refine x_iconst C 0 dX8_tapError_34 rfl ?_
      refine x_istore_n (L' := [(3, .int 0), (0, .int t), (1, .int d), (2, .int g)]) C dX8_tapError_35 rfl rfl ?_
      refine x_iload_n C dX8_tapError_36 0 rfl ?_
      refine x_if_eq C 44 dX8_tapError_37 rfl (fun _ => ?_) (fun c => absurd c (by decide))
      refine x_ldc C (-1000001) m_180 dX8_tapError_44 ?_
      exact x_iret C Z rfl rfl (by simp [eTap, c4, c14]) rfl dX8_tapError_46
    · refine x_iload_n C dX8_tapError_17 2 rfl ?_
      refine x_sipush C (-900) dX8_tapError_18 rfl ?_
      refine x_sipush C 900 dX8_tapError_21 rfl ?_
      refine x_cS1 C (c_X8_isWithin E N _ g (-900) 900) v_X8_140 hN rfl rfl rfl rfl dX8_tapError_24 ?_
      refine x_ifb_eq C 34 dX8_tapError_27 rfl (fun c27 => ?_) (fun c27 => ?_)
      · refine x_iconst C 0 dX8_tapError_34 rfl ?_
        refine x_istore_n (L' := [(3, .int 0), (0, .int t), (1, .int d), (2, .int g)]) C dX8_tapError_35 rfl rfl ?_
        refine x_iload_n C dX8_tapError_36 0 rfl ?_
        refine x_if_eq C 44 dX8_tapError_37 rfl (fun _ => ?_) (fun c => absurd c (by decide))
        refine x_ldc C (-1000001) m_180 dX8_tapError_44 ?_
        exact x_iret C Z rfl rfl (by simp [eTap, c4, c14, c27]) rfl dX8_tapError_46
      · refine x_iconst C 1 dX8_tapError_30 rfl ?_
        refine x_goto C 35 dX8_tapError_31 rfl ?_
        refine x_istore_n (L' := [(3, .int 1), (0, .int t), (1, .int d), (2, .int g)]) C dX8_tapError_35 rfl rfl ?_
        refine x_iload_n C dX8_tapError_36 0 rfl ?_
        refine x_if_eq C 44 dX8_tapError_37 rfl (fun c => absurd c (by decide)) (fun _ => ?_)
        refine x_iconst C 0 dX8_tapError_40 rfl ?_
        refine x_goto C 46 dX8_tapError_41 rfl ?_
        exact x_iret C Z rfl rfl (by simp [eTap, c4, c14, c27]) rfl dX8_tapError_46

set_option maxRecDepth 100000 in
set_option maxHeartbeats 4000000 in
theorem c_X8_feedbackError (E : XE) (N : Nat) (G : GW) (d g : Int32) : MF E yX8_feedbackError cX8_feedbackError 3 (some .int) 1 22 0 0 [.int d, .int g] N (G) (some (.int (eFee d g))) (G) := by
  refine MF.mk RX8 rfl (by decide +kernel) rfl (fun K C Z hin hN => ?_)
  show XW E K 3 N 0 0 _ 0 [(0, .int d), (1, .int g)] []
  refine x_iload_n C dX8_feedbackError_0 0 rfl ?_
  refine x_iconst C 1 dX8_feedbackError_1 rfl ?_
  refine x_bipush C 64 dX8_feedbackError_2 rfl ?_
  refine x_cS1 C (c_X8_isWithin E N _ d 1 64) v_X8_140 hN rfl rfl rfl rfl dX8_feedbackError_4 ?_
  refine x_ifb_eq C 25 dX8_feedbackError_7 rfl (fun c7 => ?_) (fun c7 => ?_)
  · refine x_iconst C 0 dX8_feedbackError_25 rfl ?_
    refine x_istore_n (L' := [(2, .int 0), (0, .int d), (1, .int g)]) C dX8_feedbackError_26 rfl rfl ?_
    refine x_iload_n C dX8_feedbackError_27 0 rfl ?_
    refine x_if_eq C 35 dX8_feedbackError_28 rfl (fun _ => ?_) (fun c => absurd c (by decide))
    refine x_ldc C (-1000001) m_180 dX8_feedbackError_35 ?_
    exact x_iret C Z rfl rfl (by simp [eFee, c7]) rfl dX8_feedbackError_37
  · refine x_iload_n C dX8_feedbackError_10 1 rfl ?_
    refine x_iconst C 0 dX8_feedbackError_11 rfl ?_
    refine x_sipush C 950 dX8_feedbackError_12 rfl ?_
    refine x_cS1 C (c_X8_isWithin E N _ g 0 950) v_X8_140 hN rfl rfl rfl rfl dX8_feedbackError_15 ?_
    refine x_ifb_eq C 25 dX8_feedbackError_18 rfl (fun c18 => ?_) (fun c18 => ?_)
    · refine x_iconst C 0 dX8_feedbackError_25 rfl ?_
      refine x_istore_n (L' := [(2, .int 0), (0, .int d), (1, .int g)]) C dX8_feedbackError_26 rfl rfl ?_
      refine x_iload_n C dX8_feedbackError_27 0 rfl ?_
      refine x_if_eq C 35 dX8_feedbackError_28 rfl (fun _ => ?_) (fun c => absurd c (by decide))
      refine x_ldc C (-1000001) m_180 dX8_feedbackError_35 ?_
      exact x_iret C Z rfl rfl (by simp [eFee, c7, c18]) rfl dX8_feedbackError_37
    · refine x_iconst C 1 dX8_feedbackError_21 rfl ?_
      refine x_goto C 26 dX8_feedbackError_22 rfl ?_
      refine x_istore_n (L' := [(2, .int 1), (0, .int d), (1, .int g)]) C dX8_feedbackError_26 rfl rfl ?_
      refine x_iload_n C dX8_feedbackError_27 0 rfl ?_
      refine x_if_eq C 35 dX8_feedbackError_28 rfl (fun c => absurd c (by decide)) (fun _ => ?_)
      refine x_iconst C 0 dX8_feedbackError_31 rfl ?_
      refine x_goto C 37 dX8_feedbackError_32 rfl ?_
      exact x_iret C Z rfl rfl (by simp [eFee, c7, c18]) rfl dX8_feedbackError_37

set_option maxRecDepth 100000 in
set_option maxHeartbeats 4000000 in
theorem c_X8_stealError (E : XE) (N : Nat) (G : GW) (w o : Int32) : MF E yX8_stealError cX8_stealError 2 (some .int) 1 22 0 0 [.int w, .int o] N (G) (some (.int (eSte w o))) (G) := by
  refine MF.mk RX8 rfl (by decide +kernel) rfl (fun K C Z hin hN => ?_)
  show XW E K 2 N 0 0 _ 0 [(0, .int w), (1, .int o)] []
  refine x_iload_n C dX8_stealError_0 0 rfl ?_
  refine x_iconst C 1 dX8_stealError_1 rfl ?_
  refine x_bipush C 48 dX8_stealError_2 rfl ?_
  refine x_cS1 C (c_X8_isWithin E N _ w 1 48) v_X8_140 hN rfl rfl rfl rfl dX8_stealError_4 ?_
  refine x_ifb_ne C 13 dX8_stealError_7 rfl (fun c7 => ?_) (fun c7 => ?_)
  · refine x_iload_n C dX8_stealError_13 1 rfl ?_
    refine x_iload_n C dX8_stealError_14 0 rfl ?_
    refine x_iadd C dX8_stealError_15 ?_
    refine x_bipush C 48 dX8_stealError_16 rfl ?_
    refine x_icmp_le C 26 dX8_stealError_18 rfl (fun c18 => ?_) (fun c18 => ?_)
    · refine x_iconst C 0 dX8_stealError_26 rfl ?_
      exact x_iret C Z rfl rfl (by simp [eSte, c7, c18]) rfl dX8_stealError_27
    · refine x_ldc C (-1000003) m_326 dX8_stealError_21 ?_
      refine x_goto C 27 dX8_stealError_23 rfl ?_
      exact x_iret C Z rfl rfl (by simp [eSte, c7, c18]) rfl dX8_stealError_27
  · refine x_ldc C (-1000001) m_180 dX8_stealError_10 ?_
    exact x_iret C Z rfl rfl (by simp [eSte, c7]) rfl dX8_stealError_12

set_option maxRecDepth 100000 in
set_option maxHeartbeats 4000000 in
theorem c_X8_giveBackError (E : XE) (N : Nat) (G : GW) (w o : Int32) : MF E yX8_giveBackError cX8_giveBackError 2 (some .int) 1 22 0 0 [.int w, .int o] N (G) (some (.int (eGiv w o))) (G) := by
  refine MF.mk RX8 rfl (by decide +kernel) rfl (fun K C Z hin hN => ?_)
  show XW E K 2 N 0 0 _ 0 [(0, .int w), (1, .int o)] []
  refine x_iload_n C dX8_giveBackError_0 0 rfl ?_
  refine x_iconst C 1 dX8_giveBackError_1 rfl ?_
  refine x_bipush C 48 dX8_giveBackError_2 rfl ?_
  refine x_cS1 C (c_X8_isWithin E N _ w 1 48) v_X8_140 hN rfl rfl rfl rfl dX8_giveBackError_4 ?_
  refine x_ifb_ne C 13 dX8_giveBackError_7 rfl (fun c7 => ?_) (fun c7 => ?_)
  · refine x_iload_n C dX8_giveBackError_13 1 rfl ?_
    refine x_iload_n C dX8_giveBackError_14 0 rfl ?_
    refine x_icmp_ge C 23 dX8_giveBackError_15 rfl (fun c15 => ?_) (fun c15 => ?_)
    · refine x_iconst C 0 dX8_giveBackError_23 rfl ?_
      exact x_iret C Z rfl rfl (by simp [eGiv, c7, c15]) rfl dX8_giveBackError_24
    · refine x_ldc C (-1000002) m_302 dX8_giveBackError_18 ?_
      refine x_goto C 24 dX8_giveBackError_20 rfl ?_
      exact x_iret C Z rfl rfl (by simp [eGiv, c7, c15]) rfl dX8_giveBackError_24
  · refine x_ldc C (-1000001) m_180 dX8_giveBackError_10 ?_
    exact x_iret C Z rfl rfl (by simp [eGiv, c7]) rfl dX8_giveBackError_12

set_option maxRecDepth 100000 in
set_option maxHeartbeats 4000000 in
theorem c_J9_floorMod_7cf53 (E : XE) (N : Nat) (G : GW) (x y : Int32) (hy : ¬ y = 0) : MF E yJ9_floorMod_7cf53 cJ9_floorMod_7cf53 3 (some .int) 0 0 0 0 [.int x, .int y] N (G) (some (.int (jfm x y))) (G) := by
  refine MF.mk RJ9 rfl (by decide +kernel) rfl (fun K C Z hin hN => ?_)
  show XW E K 3 N 0 0 _ 0 [(0, .int x), (1, .int y)] []
  refine x_iload_n C dJ9_floorMod_7cf53_0 0 rfl ?_
  refine x_iload_n C dJ9_floorMod_7cf53_1 1 rfl ?_
  refine x_irem C dJ9_floorMod_7cf53_2 hy ?_
  refine x_istore_n (L' := [(2, .int (x - x / y * y)), (0, .int x), (1, .int y)]) C dJ9_floorMod_7cf53_3 rfl rfl ?_
  refine x_iload_n C dJ9_floorMod_7cf53_4 1 rfl ?_
  refine x_iload_n C dJ9_floorMod_7cf53_5 2 rfl ?_
  refine x_ixor C dJ9_floorMod_7cf53_6 ?_
  refine x_if_ge C 18 dJ9_floorMod_7cf53_7 rfl (fun c7 => ?_) (fun c7 => ?_)
  · refine x_iload_n C dJ9_floorMod_7cf53_18 0 rfl ?_
    exact x_iret C Z rfl rfl (by simp [jfm, c7]) rfl dJ9_floorMod_7cf53_19
  · refine x_iload_n C dJ9_floorMod_7cf53_10 0 rfl ?_
    refine x_if_eq C 18 dJ9_floorMod_7cf53_11 rfl (fun c11 => ?_) (fun c11 => ?_)
    · refine x_iload_n C dJ9_floorMod_7cf53_18 0 rfl ?_
      exact x_iret C Z rfl rfl (by simp [jfm, c7, c11]) rfl dJ9_floorMod_7cf53_19
    · refine x_iload_n C dJ9_floorMod_7cf53_14 0 rfl ?_
      refine x_iload_n C dJ9_floorMod_7cf53_15 2 rfl ?_
      refine x_iadd C dJ9_floorMod_7cf53_16 ?_
      exact x_iret C Z rfl rfl (by simp [jfm, c7, c11]) rfl dJ9_floorMod_7cf53_17
end
section
/-! ===== Ring, Outputs, Meters, Text ===== -/
set_option maxRecDepth 100000 in
set_option maxHeartbeats 4000000 in
theorem c_X5_write (E : XE) (N b : Nat) (G : GW) (w : Nat → Int32) (fi le x : Int32) (hb_b : xB E ≤ b) (hn_b : b + 2 ≤ N) : MF E yX5_write cX5_write 2 none 0 0 0 0 [.ref b, .int x] N (ov b (ringC E b w fi le) G) none (ov b (ringC E b (rWr w fi x) (rFi fi) le) G) := by
  refine MF.mk RX5 rfl (by decide +kernel) rfl (fun K C Z hin hN => ?_)
  show XW E K 2 N 0 0 _ 0 [(0, .ref b), (1, .int x)] []
  refine x_aload_n C dX5_write_0 0 rfl ?_
  refine x_aload_n C dX5_write_1 0 rfl ?_
  refine x_get C (xlo (i := 0) hb_b) (xhi (i := 0) hn_b rfl) (ov_at (i := 0) rfl) f_X5_19 rfl dX5_write_2 ?_
  refine x_iconst C 1 dX5_write_5 rfl ?_
  refine x_isub C dX5_write_6 ?_
  refine x_bipush C 63 dX5_write_7 rfl ?_
  refine x_iand C dX5_write_9 ?_
  refine x_put (G' := ov b (ringC E b w ((fi - 1) &&& 63) le) G) C (xlo (i := 0) hb_b) (xhi (i := 0) hn_b rfl) (ov_at (i := 0) rfl) f_X5_19 xt_X5 rfl rfl rfl rfl (ov_set (i := 0) rfl rfl) dX5_write_10 ?_
  refine x_aload_n C dX5_write_13 0 rfl ?_
  refine x_get C (xlo (i := 0) hb_b) (xhi (i := 0) hn_b rfl) (ov_at (i := 0) rfl) f_X5_9 rfl dX5_write_14 ?_
  refine x_aload_n C dX5_write_17 0 rfl ?_
  refine x_get C (xlo (i := 0) hb_b) (xhi (i := 0) hn_b rfl) (ov_at (i := 0) rfl) f_X5_19 rfl dX5_write_18 ?_
  refine x_bipush C 63 dX5_write_21 rfl ?_
  refine x_iand C dX5_write_23 ?_
  refine x_iload_n C dX5_write_24 1 rfl ?_
  refine x_iast (G' := ov b (ringC E b (upd w ((((fi - 1) &&& 63) &&& 63).toNatClampNeg) x) ((fi - 1) &&& 63) le) G) C ((((fi - 1) &&& 63) &&& 63).toNatClampNeg) (xlo (i := 1) hb_b) (xhi (i := 1) hn_b rfl) (ov_at (i := 1) rfl) (vp_in_and63 _) rfl (ov_set (i := 1) rfl rfl) dX5_write_25 ?_
  exact x_vret C Z rfl rfl rfl dX5_write_26

set_option maxRecDepth 100000 in
set_option maxHeartbeats 4000000 in
theorem c_X5_shorten (E : XE) (N b : Nat) (G : GW) (w : Nat → Int32) (fi le x : Int32) (hb_b : xB E ≤ b) (hn_b : b + 2 ≤ N) : MF E yX5_shorten cX5_shorten 2 none 1 21 0 0 [.ref b, .int x] N (ov b (ringC E b w fi le) G) none (ov b (ringC E b w fi (imax (le - x) 0)) G) := by
  refine MF.mk RX5 rfl (by decide +kernel) rfl (fun K C Z hin hN => ?_)
  show XW E K 2 N 0 0 _ 0 [(0, .ref b), (1, .int x)] []
  refine x_aload_n C dX5_shorten_0 0 rfl ?_
  refine x_aload_n C dX5_shorten_1 0 rfl ?_
  refine x_get C (xlo (i := 0) hb_b) (xhi (i := 0) hn_b rfl) (ov_at (i := 0) rfl) f_X5_15 rfl dX5_shorten_2 ?_
  refine x_iload_n C dX5_shorten_5 1 rfl ?_
  refine x_isub C dX5_shorten_6 ?_
  refine x_iconst C 0 dX5_shorten_7 rfl ?_
  refine x_mmax C m_335 rfl rfl rfl rfl dX5_shorten_8 ?_
  refine x_put (G' := ov b (ringC E b w fi (imax (le - x) 0)) G) C (xlo (i := 0) hb_b) (xhi (i := 0) hn_b rfl) (ov_at (i := 0) rfl) f_X5_15 xt_X5 rfl rfl rfl rfl (ov_set (i := 0) rfl rfl) dX5_shorten_11 ?_
  exact x_vret C Z rfl rfl rfl dX5_shorten_14

set_option maxRecDepth 100000 in
set_option maxHeartbeats 4000000 in
theorem c_X5_lengthen (E : XE) (N b : Nat) (G : GW) (w : Nat → Int32) (fi : Int32) (l k : Nat) (hl : l + k ≤ 64) (hb_b : xB E ≤ b) (hn_b : b + 2 ≤ N) : MF E yX5_lengthen cX5_lengthen 4 none 1 21 0 0 [.ref b, .int (nI k)] N (ov b (ringC E b w fi (nI l)) G) none (ov b (ringC E b (rZf w fi l k) fi (nI (l + k))) G) := by
  refine MF.mk RX5 rfl (by decide +kernel) rfl (fun K C Z hin hN => ?_)
  show XW E K 4 N 0 0 _ 0 [(0, .ref b), (1, .int (nI k))] []
  refine x_aload_n C dX5_lengthen_0 0 rfl ?_
  refine x_get C (xlo (i := 0) hb_b) (xhi (i := 0) hn_b rfl) (ov_at (i := 0) rfl) f_X5_15 rfl dX5_lengthen_1 ?_
  refine x_iload_n C dX5_lengthen_4 1 rfl ?_
  refine x_iadd C dX5_lengthen_5 ?_
  refine x_bipush C 64 dX5_lengthen_6 rfl ?_
  refine x_mmin C m_347 rfl rfl rfl rfl dX5_lengthen_8 ?_
  refine x_v (w := .int (nI (l + k))) (by rw [imin64 hl]) ?_
  refine x_istore_n (L' := [(2, .int (nI (l + k))), (0, .ref b), (1, .int (nI k))]) C dX5_lengthen_11 rfl rfl ?_
  refine x_aload_n C dX5_lengthen_12 1 rfl ?_
  refine x_get C (xlo (i := 0) hb_b) (xhi (i := 0) hn_b rfl) (ov_at (i := 0) rfl) f_X5_15 rfl dX5_lengthen_13 ?_
  refine x_istore_n (L' := [(3, .int (nI l)), (2, .int (nI (l + k))), (0, .ref b), (1, .int (nI k))]) C dX5_lengthen_16 rfl rfl ?_
  refine x_perm (L' := [(0, .ref b), (2, .int (nI (l + k))), (3, .int (nI l))]) [2, 1, 0] rfl ?_
  have lp17 : ∀ (d i : Nat), i + d = k → XW E K 4 N 0 0 (ov b (ringC E b (rZf w fi l i) fi (nI l)) G) 17 [(0, .ref b), (2, .int (nI (l + k))), (3, .int (nI (l + i)))] [] := by
    intro d
    induction d with
    | zero =>
      intro i hd
      have hi : i = k := by omega
      refine x_iload_n C dX5_lengthen_17 2 rfl ?_
      refine x_iload_n C dX5_lengthen_18 1 rfl ?_
      refine x_icmp_ge C 43 dX5_lengthen_19 rfl (fun _ => ?_) (fun c => absurd c (not_not_intro (nI_le (by omega) (by omega))))
      refine x_aload_n C dX5_lengthen_43 0 rfl ?_
      refine x_iload_n C dX5_lengthen_44 1 rfl ?_
      refine x_put (G' := ov b (ringC E b (rZf w fi l i) fi (nI (l + k))) G) C (xlo (i := 0) hb_b) (xhi (i := 0) hn_b rfl) (ov_at (i := 0) rfl) f_X5_15 xt_X5 rfl rfl rfl rfl (ov_set (i := 0) rfl rfl) dX5_lengthen_45 ?_
      exact x_vret C Z rfl rfl (by rw [hi]) dX5_lengthen_48
    | succ d ih =>
      intro i hd
      have hi : i < k := by omega
      refine x_iload_n C dX5_lengthen_17 2 rfl ?_
      refine x_iload_n C dX5_lengthen_18 1 rfl ?_
      refine x_icmp_ge C 43 dX5_lengthen_19 rfl (fun c => absurd c (nI_ge (by omega) (by omega))) (fun _ => ?_)
      refine x_aload_n C dX5_lengthen_22 0 rfl ?_
      refine x_get C (xlo (i := 0) hb_b) (xhi (i := 0) hn_b rfl) (ov_at (i := 0) rfl) f_X5_9 rfl dX5_lengthen_23 ?_
      refine x_aload_n C dX5_lengthen_26 0 rfl ?_
      refine x_get C (xlo (i := 0) hb_b) (xhi (i := 0) hn_b rfl) (ov_at (i := 0) rfl) f_X5_19 rfl dX5_lengthen_27 ?_
      refine x_iload_n C dX5_lengthen_30 2 rfl ?_
      refine x_iadd C dX5_lengthen_31 ?_
      refine x_bipush C 63 dX5_lengthen_32 rfl ?_
      refine x_iand C dX5_lengthen_34 ?_
      refine x_iconst C 0 dX5_lengthen_35 rfl ?_
      refine x_iast (G' := ov b (ringC E b (upd (rZf w fi l i) (((fi + (nI (l + i))) &&& 63).toNatClampNeg) 0) fi (nI l)) G) C (((fi + (nI (l + i))) &&& 63).toNatClampNeg) (xlo (i := 1) hb_b) (xhi (i := 1) hn_b rfl) (ov_at (i := 1) rfl) (vp_in_and63 _) rfl (ov_set (i := 1) rfl rfl) dX5_lengthen_36 ?_
      refine x_iinc (L' := [(3, .int ((nI (l + i)) + 1)), (0, .ref b), (2, .int (nI (l + k)))]) C ((nI (l + i)) + 1) dX5_lengthen_37 2 rfl rfl rfl rfl ?_
      refine x_goto C 17 dX5_lengthen_40 rfl ?_
      refine x_perm (L' := [(0, .ref b), (2, .int (nI (l + k))), (3, .int ((nI (l + i)) + 1))]) [1, 2, 0] rfl ?_
      refine x_to (L' := [(0, .ref b), (2, .int (nI (l + k))), (3, .int (nI (l + (i + 1))))]) (G' := ov b (ringC E b (rZf w fi l (i + 1)) fi (nI l)) G) (by simp only [← Nat.add_assoc, nI_succ]) rfl rfl ?_
      exact ih (i + 1) (by omega)
  refine x_to (L' := [(0, .ref b), (2, .int (nI (l + k))), (3, .int (nI (l + 0)))]) (G' := ov b (ringC E b (rZf w fi l 0) fi (nI l)) G) rfl rfl rfl ?_
  exact lp17 _ 0 (Nat.add_sub_cancel' (by omega))

set_option maxRecDepth 100000 in
set_option maxHeartbeats 4000000 in
theorem c_X5_wordsAbove (E : XE) (N b : Nat) (G : GW) (w : Nat → Int32) (fi : Int32) (l : Nat) (x : Int32) (hl : l ≤ 64) (hb_b : xB E ≤ b) (hn_b : b + 2 ≤ N) : MF E yX5_wordsAbove cX5_wordsAbove 4 (some .int) 1 21 0 0 [.ref b, .int x] N (ov b (ringC E b w fi (nI l)) G) (some (.int (cntAb (fun j => rAt w fi (nI l) (nI j)) x l))) (ov b (ringC E b w fi (nI l)) G) := by
  refine MF.mk RX5 rfl (by decide +kernel) rfl (fun K C Z hin hN => ?_)
  show XW E K 4 N 0 0 _ 0 [(0, .ref b), (1, .int x)] []
  refine x_iconst C 0 dX5_wordsAbove_0 rfl ?_
  refine x_istore_n (L' := [(2, .int 0), (0, .ref b), (1, .int x)]) C dX5_wordsAbove_1 rfl rfl ?_
  refine x_iconst C 0 dX5_wordsAbove_2 rfl ?_
  refine x_istore_n (L' := [(3, .int 0), (2, .int 0), (0, .ref b), (1, .int x)]) C dX5_wordsAbove_3 rfl rfl ?_
  refine x_perm (L' := [(0, .ref b), (1, .int x), (2, .int 0), (3, .int 0)]) [2, 3, 1, 0] rfl ?_
  have lp4 : ∀ (d i : Nat), i + d = l → XW E K 4 N 0 0 (ov b (ringC E b w fi (nI l)) G) 4 [(0, .ref b), (1, .int x), (2, .int (cntAb (fun j => rAt w fi (nI l) (nI j)) x i)), (3, .int (nI i))] [] := by
    intro d
    induction d with
    | zero =>
      intro i hd
      have hi : i = l := by omega
      refine x_iload_n C dX5_wordsAbove_4 3 rfl ?_
      refine x_aload_n C dX5_wordsAbove_5 0 rfl ?_
      refine x_get C (xlo (i := 0) hb_b) (xhi (i := 0) hn_b rfl) (ov_at (i := 0) rfl) f_X5_15 rfl dX5_wordsAbove_6 ?_
      refine x_icmp_ge C 38 dX5_wordsAbove_9 rfl (fun _ => ?_) (fun c => absurd c (not_not_intro (nI_le (by omega) (by omega))))
      refine x_iload_n C dX5_wordsAbove_38 2 rfl ?_
      exact x_iret C Z rfl rfl (by rw [hi]) rfl dX5_wordsAbove_39
    | succ d ih =>
      intro i hd
      have hi : i < l := by omega
      refine x_iload_n C dX5_wordsAbove_4 3 rfl ?_
      refine x_aload_n C dX5_wordsAbove_5 0 rfl ?_
      refine x_get C (xlo (i := 0) hb_b) (xhi (i := 0) hn_b rfl) (ov_at (i := 0) rfl) f_X5_15 rfl dX5_wordsAbove_6 ?_
      refine x_icmp_ge C 38 dX5_wordsAbove_9 rfl (fun c => absurd c (nI_ge (by omega) (by omega))) (fun _ => ?_)
      refine x_iload_n C dX5_wordsAbove_12 2 rfl ?_
      refine x_aload_n C dX5_wordsAbove_13 0 rfl ?_
      refine x_iload_n C dX5_wordsAbove_14 3 rfl ?_
      refine x_cV1 C (c_X5_wordAt E N b _ w fi (nI l) (nI i) hb_b hn_b) v_X5_37 hN (xlo (i := 0) hb_b) (xhi (i := 0) hn_b rfl) (ov_at (i := 0) rfl) rfl rfl rfl rfl rfl dX5_wordsAbove_15 ?_
      refine x_mabs C m_422 rfl rfl rfl rfl dX5_wordsAbove_18 ?_
      refine x_iload_n C dX5_wordsAbove_21 1 rfl ?_
      refine x_t_icmp_le C 29 30 1 0 dX5_wordsAbove_22 rfl dX5_wordsAbove_25 rfl dX5_wordsAbove_26 rfl dX5_wordsAbove_29 rfl rfl ?_
      refine x_iadd C dX5_wordsAbove_30 ?_
      refine x_topi (fun z1 ez1 => ?_)
      refine x_istore_n (L' := [(2, .int z1), (0, .ref b), (1, .int x), (3, .int (nI i))]) C dX5_wordsAbove_31 rfl rfl ?_
      refine x_iinc (L' := [(3, .int ((nI i) + 1)), (2, .int z1), (0, .ref b), (1, .int x)]) C ((nI i) + 1) dX5_wordsAbove_32 3 rfl rfl rfl rfl ?_
      refine x_goto C 4 dX5_wordsAbove_35 rfl ?_
      refine x_perm (L' := [(0, .ref b), (1, .int x), (2, .int z1), (3, .int ((nI i) + 1))]) [2, 3, 1, 0] rfl ?_
      subst ez1
      refine x_to (L' := [(0, .ref b), (1, .int x), (2, .int (cntAb (fun j => rAt w fi (nI l) (nI j)) x (i + 1))), (3, .int (nI (i + 1)))]) (G' := ov b (ringC E b w fi (nI l)) G) (by simp only [nI_succ, cntAb]; try rfl) rfl rfl ?_
      exact ih (i + 1) (by omega)
  refine x_to (L' := [(0, .ref b), (1, .int x), (2, .int (cntAb (fun j => rAt w fi (nI l) (nI j)) x 0)), (3, .int (nI 0))]) (G' := ov b (ringC E b w fi (nI l)) G) rfl rfl rfl ?_
  exact lp4 _ 0 (Nat.add_sub_cancel' (by omega))

set_option maxRecDepth 100000 in
set_option maxHeartbeats 4000000 in
theorem c_X5_sumOfAmounts (E : XE) (N b : Nat) (G : GW) (w : Nat → Int32) (fi : Int32) (l : Nat) (hl : l ≤ 64) (hb_b : xB E ≤ b) (hn_b : b + 2 ≤ N) : MF E yX5_sumOfAmounts cX5_sumOfAmounts 3 (some .int) 1 21 0 0 [.ref b] N (ov b (ringC E b w fi (nI l)) G) (some (.int (sumAb (fun j => rAt w fi (nI l) (nI j)) l))) (ov b (ringC E b w fi (nI l)) G) := by
  refine MF.mk RX5 rfl (by decide +kernel) rfl (fun K C Z hin hN => ?_)
  show XW E K 3 N 0 0 _ 0 [(0, .ref b)] []
  refine x_iconst C 0 dX5_sumOfAmounts_0 rfl ?_
  refine x_istore_n (L' := [(1, .int 0), (0, .ref b)]) C dX5_sumOfAmounts_1 rfl rfl ?_
  refine x_iconst C 0 dX5_sumOfAmounts_2 rfl ?_
  refine x_istore_n (L' := [(2, .int 0), (1, .int 0), (0, .ref b)]) C dX5_sumOfAmounts_3 rfl rfl ?_
  refine x_perm (L' := [(0, .ref b), (1, .int 0), (2, .int 0)]) [2, 1, 0] rfl ?_
  have lp4 : ∀ (d i : Nat), i + d = l → XW E K 3 N 0 0 (ov b (ringC E b w fi (nI l)) G) 4 [(0, .ref b), (1, .int (sumAb (fun j => rAt w fi (nI l) (nI j)) i)), (2, .int (nI i))] [] := by
    intro d
    induction d with
    | zero =>
      intro i hd
      have hi : i = l := by omega
      refine x_iload_n C dX5_sumOfAmounts_4 2 rfl ?_
      refine x_aload_n C dX5_sumOfAmounts_5 0 rfl ?_
      refine x_get C (xlo (i := 0) hb_b) (xhi (i := 0) hn_b rfl) (ov_at (i := 0) rfl) f_X5_15 rfl dX5_sumOfAmounts_6 ?_
      refine x_icmp_ge C 29 dX5_sumOfAmounts_9 rfl (fun _ => ?_) (fun c => absurd c (not_not_intro (nI_le (by omega) (by omega))))
      refine x_iload_n C dX5_sumOfAmounts_29 1 rfl ?_
      exact x_iret C Z rfl rfl (by rw [hi]) rfl dX5_sumOfAmounts_30
    | succ d ih =>
      intro i hd
      have hi : i < l := by omega
      refine x_iload_n C dX5_sumOfAmounts_4 2 rfl ?_
      refine x_aload_n C dX5_sumOfAmounts_5 0 rfl ?_
      refine x_get C (xlo (i := 0) hb_b) (xhi (i := 0) hn_b rfl) (ov_at (i := 0) rfl) f_X5_15 rfl dX5_sumOfAmounts_6 ?_
      refine x_icmp_ge C 29 dX5_sumOfAmounts_9 rfl (fun c => absurd c (nI_ge (by omega) (by omega))) (fun _ => ?_)
      refine x_iload_n C dX5_sumOfAmounts_12 1 rfl ?_
      refine x_aload_n C dX5_sumOfAmounts_13 0 rfl ?_
      refine x_iload_n C dX5_sumOfAmounts_14 2 rfl ?_
      refine x_cV1 C (c_X5_wordAt E N b _ w fi (nI l) (nI i) hb_b hn_b) v_X5_37 hN (xlo (i := 0) hb_b) (xhi (i := 0) hn_b rfl) (ov_at (i := 0) rfl) rfl rfl rfl rfl rfl dX5_sumOfAmounts_15 ?_
      refine x_mabs C m_422 rfl rfl rfl rfl dX5_sumOfAmounts_18 ?_
      refine x_iadd C dX5_sumOfAmounts_21 ?_
      refine x_topi (fun z1 ez1 => ?_)
      refine x_istore_n (L' := [(1, .int z1), (0, .ref b), (2, .int (nI i))]) C dX5_sumOfAmounts_22 rfl rfl ?_
      refine x_iinc (L' := [(2, .int ((nI i) + 1)), (1, .int z1), (0, .ref b)]) C ((nI i) + 1) dX5_sumOfAmounts_23 2 rfl rfl rfl rfl ?_
      refine x_goto C 4 dX5_sumOfAmounts_26 rfl ?_
      refine x_perm (L' := [(0, .ref b), (1, .int z1), (2, .int ((nI i) + 1))]) [2, 1, 0] rfl ?_
      subst ez1
      refine x_to (L' := [(0, .ref b), (1, .int (sumAb (fun j => rAt w fi (nI l) (nI j)) (i + 1))), (2, .int (nI (i + 1)))]) (G' := ov b (ringC E b w fi (nI l)) G) (by simp only [nI_succ, sumAb]; try rfl) rfl rfl ?_
      exact ih (i + 1) (by omega)
  refine x_to (L' := [(0, .ref b), (1, .int (sumAb (fun j => rAt w fi (nI l) (nI j)) 0)), (2, .int (nI 0))]) (G' := ov b (ringC E b w fi (nI l)) G) rfl rfl rfl ?_
  exact lp4 _ 0 (Nat.add_sub_cancel' (by omega))

set_option maxRecDepth 100000 in
set_option maxHeartbeats 4000000 in
theorem c_X4_add (E : XE) (N b : Nat) (G : GW) (ro : Nat → Int32) (ne ke x : Int32) (hb_b : xB E ≤ b) (hn_b : b + 2 ≤ N) : MF E yX4_add cX4_add 2 none 1 21 0 0 [.ref b, .int x] N (ov b (outC E b ro ne ke) G) none (ov b (outC E b (upd ro (oNx ne).toNatClampNeg x) (oNx ne + 1) (imin (ke + 1) 12)) G) := by
  refine MF.mk RX4 rfl (by decide +kernel) rfl (fun K C Z hin hN => ?_)
  show XW E K 2 N 0 0 _ 0 [(0, .ref b), (1, .int x)] []
  refine x_aload_n C dX4_add_0 0 rfl ?_
  refine x_get C (xlo (i := 0) hb_b) (xhi (i := 0) hn_b rfl) (ov_at (i := 0) rfl) f_X4_15 rfl dX4_add_1 ?_
  refine x_if_lt C 16 dX4_add_4 rfl (fun c4 => ?_) (fun c4 => ?_)
  · refine x_aload_n C dX4_add_16 0 rfl ?_
    refine x_iconst C 0 dX4_add_17 rfl ?_
    refine x_put (G' := ov b (outC E b ro 0 ke) G) C (xlo (i := 0) hb_b) (xhi (i := 0) hn_b rfl) (ov_at (i := 0) rfl) f_X4_15 xt_X4 rfl rfl rfl rfl (ov_set (i := 0) rfl rfl) dX4_add_18 ?_
    refine x_aload_n C dX4_add_21 0 rfl ?_
    refine x_get C (xlo (i := 0) hb_b) (xhi (i := 0) hn_b rfl) (ov_at (i := 0) rfl) f_X4_9 rfl dX4_add_22 ?_
    refine x_aload_n C dX4_add_25 0 rfl ?_
    refine x_get C (xlo (i := 0) hb_b) (xhi (i := 0) hn_b rfl) (ov_at (i := 0) rfl) f_X4_15 rfl dX4_add_26 ?_
    refine x_iload_n C dX4_add_29 1 rfl ?_
    refine x_iast (G' := ov b (outC E b (upd ro ((0 : Int32).toNatClampNeg) x) 0 ke) G) C ((0 : Int32).toNatClampNeg) (xlo (i := 1) hb_b) (xhi (i := 1) hn_b rfl) (ov_at (i := 1) rfl) (vp_in_d rfl) rfl (ov_set (i := 1) rfl rfl) dX4_add_30 ?_
    refine x_aload_n C dX4_add_31 0 rfl ?_
    refine x_dup C dX4_add_32 rfl ?_
    refine x_get C (xlo (i := 0) hb_b) (xhi (i := 0) hn_b rfl) (ov_at (i := 0) rfl) f_X4_15 rfl dX4_add_33 ?_
    refine x_iconst C 1 dX4_add_36 rfl ?_
    refine x_iadd C dX4_add_37 ?_
    refine x_v (w := .int 1) rfl ?_
    refine x_put (G' := ov b (outC E b (upd ro ((0 : Int32).toNatClampNeg) x) 1 ke) G) C (xlo (i := 0) hb_b) (xhi (i := 0) hn_b rfl) (ov_at (i := 0) rfl) f_X4_15 xt_X4 rfl rfl rfl rfl (ov_set (i := 0) rfl rfl) dX4_add_38 ?_
    refine x_aload_n C dX4_add_41 0 rfl ?_
    refine x_aload_n C dX4_add_42 0 rfl ?_
    refine x_get C (xlo (i := 0) hb_b) (xhi (i := 0) hn_b rfl) (ov_at (i := 0) rfl) f_X4_19 rfl dX4_add_43 ?_
    refine x_iconst C 1 dX4_add_46 rfl ?_
    refine x_iadd C dX4_add_47 ?_
    refine x_bipush C 12 dX4_add_48 rfl ?_
    refine x_mmin C m_249 rfl rfl rfl rfl dX4_add_50 ?_
    refine x_put (G' := ov b (outC E b (upd ro ((0 : Int32).toNatClampNeg) x) 1 (imin (ke + 1) 12)) G) C (xlo (i := 0) hb_b) (xhi (i := 0) hn_b rfl) (ov_at (i := 0) rfl) f_X4_19 xt_X4 rfl rfl rfl rfl (ov_set (i := 0) rfl rfl) dX4_add_53 ?_
    exact x_vret C Z rfl (by simp [oNx, imin, c4]) (by simp [oNx, imin, c4]) dX4_add_56
  · refine x_aload_n C dX4_add_7 0 rfl ?_
    refine x_get C (xlo (i := 0) hb_b) (xhi (i := 0) hn_b rfl) (ov_at (i := 0) rfl) f_X4_15 rfl dX4_add_8 ?_
    refine x_bipush C 12 dX4_add_11 rfl ?_
    refine x_icmp_lt C 21 dX4_add_13 rfl (fun c13 => ?_) (fun c13 => ?_)
    · refine x_aload_n C dX4_add_21 0 rfl ?_
      refine x_get C (xlo (i := 0) hb_b) (xhi (i := 0) hn_b rfl) (ov_at (i := 0) rfl) f_X4_9 rfl dX4_add_22 ?_
      refine x_aload_n C dX4_add_25 0 rfl ?_
      refine x_get C (xlo (i := 0) hb_b) (xhi (i := 0) hn_b rfl) (ov_at (i := 0) rfl) f_X4_15 rfl dX4_add_26 ?_
      refine x_iload_n C dX4_add_29 1 rfl ?_
      refine x_iast (G' := ov b (outC E b (upd ro ((ne : Int32).toNatClampNeg) x) ne ke) G) C ((ne : Int32).toNatClampNeg) (xlo (i := 1) hb_b) (xhi (i := 1) hn_b rfl) (ov_at (i := 1) rfl) (vp_in_lt2 (M := 12) rfl c4 c13) rfl (ov_set (i := 1) rfl rfl) dX4_add_30 ?_
      refine x_aload_n C dX4_add_31 0 rfl ?_
      refine x_dup C dX4_add_32 rfl ?_
      refine x_get C (xlo (i := 0) hb_b) (xhi (i := 0) hn_b rfl) (ov_at (i := 0) rfl) f_X4_15 rfl dX4_add_33 ?_
      refine x_iconst C 1 dX4_add_36 rfl ?_
      refine x_iadd C dX4_add_37 ?_
      refine x_put (G' := ov b (outC E b (upd ro ((ne : Int32).toNatClampNeg) x) (ne + 1) ke) G) C (xlo (i := 0) hb_b) (xhi (i := 0) hn_b rfl) (ov_at (i := 0) rfl) f_X4_15 xt_X4 rfl rfl rfl rfl (ov_set (i := 0) rfl rfl) dX4_add_38 ?_
      refine x_aload_n C dX4_add_41 0 rfl ?_
      refine x_aload_n C dX4_add_42 0 rfl ?_
      refine x_get C (xlo (i := 0) hb_b) (xhi (i := 0) hn_b rfl) (ov_at (i := 0) rfl) f_X4_19 rfl dX4_add_43 ?_
      refine x_iconst C 1 dX4_add_46 rfl ?_
      refine x_iadd C dX4_add_47 ?_
      refine x_bipush C 12 dX4_add_48 rfl ?_
      refine x_mmin C m_249 rfl rfl rfl rfl dX4_add_50 ?_
      refine x_put (G' := ov b (outC E b (upd ro ((ne : Int32).toNatClampNeg) x) (ne + 1) (imin (ke + 1) 12)) G) C (xlo (i := 0) hb_b) (xhi (i := 0) hn_b rfl) (ov_at (i := 0) rfl) f_X4_19 xt_X4 rfl rfl rfl rfl (ov_set (i := 0) rfl rfl) dX4_add_53 ?_
      exact x_vret C Z rfl (by simp [oNx, imin, c4, c13]) (by simp [oNx, imin, c4, c13]) dX4_add_56
    · refine x_aload_n C dX4_add_16 0 rfl ?_
      refine x_iconst C 0 dX4_add_17 rfl ?_
      refine x_put (G' := ov b (outC E b ro 0 ke) G) C (xlo (i := 0) hb_b) (xhi (i := 0) hn_b rfl) (ov_at (i := 0) rfl) f_X4_15 xt_X4 rfl rfl rfl rfl (ov_set (i := 0) rfl rfl) dX4_add_18 ?_
      refine x_aload_n C dX4_add_21 0 rfl ?_
      refine x_get C (xlo (i := 0) hb_b) (xhi (i := 0) hn_b rfl) (ov_at (i := 0) rfl) f_X4_9 rfl dX4_add_22 ?_
      refine x_aload_n C dX4_add_25 0 rfl ?_
      refine x_get C (xlo (i := 0) hb_b) (xhi (i := 0) hn_b rfl) (ov_at (i := 0) rfl) f_X4_15 rfl dX4_add_26 ?_
      refine x_iload_n C dX4_add_29 1 rfl ?_
      refine x_iast (G' := ov b (outC E b (upd ro ((0 : Int32).toNatClampNeg) x) 0 ke) G) C ((0 : Int32).toNatClampNeg) (xlo (i := 1) hb_b) (xhi (i := 1) hn_b rfl) (ov_at (i := 1) rfl) (vp_in_d rfl) rfl (ov_set (i := 1) rfl rfl) dX4_add_30 ?_
      refine x_aload_n C dX4_add_31 0 rfl ?_
      refine x_dup C dX4_add_32 rfl ?_
      refine x_get C (xlo (i := 0) hb_b) (xhi (i := 0) hn_b rfl) (ov_at (i := 0) rfl) f_X4_15 rfl dX4_add_33 ?_
      refine x_iconst C 1 dX4_add_36 rfl ?_
      refine x_iadd C dX4_add_37 ?_
      refine x_v (w := .int 1) rfl ?_
      refine x_put (G' := ov b (outC E b (upd ro ((0 : Int32).toNatClampNeg) x) 1 ke) G) C (xlo (i := 0) hb_b) (xhi (i := 0) hn_b rfl) (ov_at (i := 0) rfl) f_X4_15 xt_X4 rfl rfl rfl rfl (ov_set (i := 0) rfl rfl) dX4_add_38 ?_
      refine x_aload_n C dX4_add_41 0 rfl ?_
      refine x_aload_n C dX4_add_42 0 rfl ?_
      refine x_get C (xlo (i := 0) hb_b) (xhi (i := 0) hn_b rfl) (ov_at (i := 0) rfl) f_X4_19 rfl dX4_add_43 ?_
      refine x_iconst C 1 dX4_add_46 rfl ?_
      refine x_iadd C dX4_add_47 ?_
      refine x_bipush C 12 dX4_add_48 rfl ?_
      refine x_mmin C m_249 rfl rfl rfl rfl dX4_add_50 ?_
      refine x_put (G' := ov b (outC E b (upd ro ((0 : Int32).toNatClampNeg) x) 1 (imin (ke + 1) 12)) G) C (xlo (i := 0) hb_b) (xhi (i := 0) hn_b rfl) (ov_at (i := 0) rfl) f_X4_19 xt_X4 rfl rfl rfl rfl (ov_set (i := 0) rfl rfl) dX4_add_53 ?_
      exact x_vret C Z rfl (by simp [oNx, imin, c4, c13]) (by simp [oNx, imin, c4, c13]) dX4_add_56

set_option maxRecDepth 100000 in
set_option maxHeartbeats 4000000 in
theorem c_X4_latest (E : XE) (N b : Nat) (G : GW) (ro : Nat → Int32) (ne ke x : Int32) (hb_b : xB E ≤ b) (hn_b : b + 2 ≤ N) : MF E yX4_latest cX4_latest 2 (some .int) 1 22 0 0 [.ref b, .int x] N (ov b (outC E b ro ne ke) G) (some (.int (oAt ro ne ke x))) (ov b (outC E b ro ne ke) G) := by
  refine MF.mk RX4 rfl (by decide +kernel) rfl (fun K C Z hin hN => ?_)
  show XW E K 2 N 0 0 _ 0 [(0, .ref b), (1, .int x)] []
  refine x_iload_n C dX4_latest_0 1 rfl ?_
  refine x_if_lt C 12 dX4_latest_1 rfl (fun c1 => ?_) (fun c1 => ?_)
  · refine x_iconst C 0 dX4_latest_12 rfl ?_
    exact x_iret C Z rfl rfl (by simp [oAt, c1]) rfl dX4_latest_13
  · refine x_iload_n C dX4_latest_4 1 rfl ?_
    refine x_aload_n C dX4_latest_5 0 rfl ?_
    refine x_get C (xlo (i := 0) hb_b) (xhi (i := 0) hn_b rfl) (ov_at (i := 0) rfl) f_X4_19 rfl dX4_latest_6 ?_
    refine x_icmp_lt C 14 dX4_latest_9 rfl (fun c9 => ?_) (fun c9 => ?_)
    · refine x_aload_n C dX4_latest_14 0 rfl ?_
      refine x_get C (xlo (i := 0) hb_b) (xhi (i := 0) hn_b rfl) (ov_at (i := 0) rfl) f_X4_9 rfl dX4_latest_15 ?_
      refine x_aload_n C dX4_latest_18 0 rfl ?_
      refine x_get C (xlo (i := 0) hb_b) (xhi (i := 0) hn_b rfl) (ov_at (i := 0) rfl) f_X4_15 rfl dX4_latest_19 ?_
      refine x_iconst C 1 dX4_latest_22 rfl ?_
      refine x_isub C dX4_latest_23 ?_
      refine x_iload_n C dX4_latest_24 1 rfl ?_
      refine x_isub C dX4_latest_25 ?_
      refine x_bipush C 12 dX4_latest_26 rfl ?_
      refine x_cS1 C (c_J9_floorMod_7cf53 E N _ ((ne - 1) - x) 12 (by first | assumption | omega | decide)) v_X4_28 hN rfl rfl rfl rfl dX4_latest_28 ?_
      refine x_iald C (ro (jfm ((ne - 1) - x) 12).toNatClampNeg) (xlo (i := 1) hb_b) (xhi (i := 1) hn_b rfl) (ov_at (i := 1) rfl) (jfm_in12 _) rfl dX4_latest_31 ?_
      exact x_iret C Z rfl rfl (by simp [oAt, c1, c9]) rfl dX4_latest_32
    · refine x_iconst C 0 dX4_latest_12 rfl ?_
      exact x_iret C Z rfl rfl (by simp [oAt, c1, c9]) rfl dX4_latest_13

set_option maxRecDepth 100000 in
set_option maxHeartbeats 4000000 in
theorem c_X2_add (E : XE) (N b : Nat) (G : GW) (sa gr ho hw : Int32) (su : Int64) (x oh wh : Int32) (hb_b : xB E ≤ b) (hn_b : b + 1 ≤ N) : MF E yX2_add cX2_add 5 none 1 21 0 0 [.ref b, .int x, .int oh, .int wh] N (ov b (metC E b sa gr ho hw su) G) none (ov b (metC E b (sa + 1) (imax gr (iabs x)) (ho + (if oh = 0 then 0 else 1)) (hw + (if wh = 0 then 0 else 1)) (su + (iabs x).toInt64)) G) := by
  refine MF.mk RX2 rfl (by decide +kernel) rfl (fun K C Z hin hN => ?_)
  show XW E K 5 N 0 0 _ 0 [(0, .ref b), (1, .int x), (2, .int oh), (3, .int wh)] []
  refine x_iload_n C dX2_add_0 1 rfl ?_
  refine x_mabs C m_254 rfl rfl rfl rfl dX2_add_1 ?_
  refine x_istore (L' := [(4, .int (iabs x)), (0, .ref b), (1, .int x), (2, .int oh), (3, .int wh)]) C dX2_add_4 rfl rfl ?_
  refine x_aload_n C dX2_add_6 1 rfl ?_
  refine x_dup C dX2_add_7 rfl ?_
  refine x_get C (xlo (i := 0) hb_b) (xhi (i := 0) hn_b rfl) (ov_at (i := 0) rfl) f_X2_13 rfl dX2_add_8 ?_
  refine x_iconst C 1 dX2_add_11 rfl ?_
  refine x_iadd C dX2_add_12 ?_
  refine x_put (G' := ov b (metC E b (sa + 1) gr ho hw su) G) C (xlo (i := 0) hb_b) (xhi (i := 0) hn_b rfl) (ov_at (i := 0) rfl) f_X2_13 xt_X2 rfl rfl rfl rfl (ov_set (i := 0) rfl rfl) dX2_add_13 ?_
  refine x_aload_n C dX2_add_16 1 rfl ?_
  refine x_dup C dX2_add_17 rfl ?_
  refine x_get C (xlo (i := 0) hb_b) (xhi (i := 0) hn_b rfl) (ov_at (i := 0) rfl) f_X2_19 rfl dX2_add_18 ?_
  refine x_iload C dX2_add_21 0 rfl ?_
  refine x_i2l C dX2_add_23 ?_
  refine x_ladd C dX2_add_24 ?_
  refine x_put (G' := ov b (metC E b (sa + 1) gr ho hw (su + ((iabs x).toInt64))) G) C (xlo (i := 0) hb_b) (xhi (i := 0) hn_b rfl) (ov_at (i := 0) rfl) f_X2_19 xt_X2 rfl rfl rfl rfl (ov_set (i := 0) rfl rfl) dX2_add_25 ?_
  refine x_aload_n C dX2_add_28 1 rfl ?_
  refine x_aload_n C dX2_add_29 1 rfl ?_
  refine x_get C (xlo (i := 0) hb_b) (xhi (i := 0) hn_b rfl) (ov_at (i := 0) rfl) f_X2_23 rfl dX2_add_30 ?_
  refine x_iload C dX2_add_33 0 rfl ?_
  refine x_mmax C m_255 rfl rfl rfl rfl dX2_add_35 ?_
  refine x_put (G' := ov b (metC E b (sa + 1) (imax gr (iabs x)) ho hw (su + ((iabs x).toInt64))) G) C (xlo (i := 0) hb_b) (xhi (i := 0) hn_b rfl) (ov_at (i := 0) rfl) f_X2_23 xt_X2 rfl rfl rfl rfl (ov_set (i := 0) rfl rfl) dX2_add_38 ?_
  refine x_aload_n C dX2_add_41 1 rfl ?_
  refine x_dup C dX2_add_42 rfl ?_
  refine x_get C (xlo (i := 0) hb_b) (xhi (i := 0) hn_b rfl) (ov_at (i := 0) rfl) f_X2_30 rfl dX2_add_43 ?_
  refine x_iload_n C dX2_add_46 3 rfl ?_
  refine x_t_if_eq C 54 55 1 0 dX2_add_47 rfl dX2_add_50 rfl dX2_add_51 rfl dX2_add_54 rfl rfl ?_
  refine x_iadd C dX2_add_55 ?_
  refine x_put (G' := ov b (metC E b (sa + 1) (imax gr (iabs x)) (ho + (if oh = 0 then 0 else 1)) hw (su + ((iabs x).toInt64))) G) C (xlo (i := 0) hb_b) (xhi (i := 0) hn_b rfl) (ov_at (i := 0) rfl) f_X2_30 xt_X2 rfl rfl rfl rfl (ov_set (i := 0) rfl rfl) dX2_add_56 ?_
  refine x_aload_n C dX2_add_59 1 rfl ?_
  refine x_dup C dX2_add_60 rfl ?_
  refine x_get C (xlo (i := 0) hb_b) (xhi (i := 0) hn_b rfl) (ov_at (i := 0) rfl) f_X2_33 rfl dX2_add_61 ?_
  refine x_iload_n C dX2_add_64 4 rfl ?_
  refine x_t_if_eq C 72 73 1 0 dX2_add_65 rfl dX2_add_68 rfl dX2_add_69 rfl dX2_add_72 rfl rfl ?_
  refine x_iadd C dX2_add_73 ?_
  refine x_put (G' := ov b (metC E b (sa + 1) (imax gr (iabs x)) (ho + (if oh = 0 then 0 else 1)) (hw + (if wh = 0 then 0 else 1)) (su + ((iabs x).toInt64))) G) C (xlo (i := 0) hb_b) (xhi (i := 0) hn_b rfl) (ov_at (i := 0) rfl) f_X2_33 xt_X2 rfl rfl rfl rfl (ov_set (i := 0) rfl rfl) dX2_add_74 ?_
  exact x_vret C Z rfl rfl rfl dX2_add_77

set_option maxRecDepth 100000 in
set_option maxHeartbeats 4000000 in
theorem c_X2_startAnew (E : XE) (N b : Nat) (G : GW) (sa gr ho hw : Int32) (su : Int64) (hb_b : xB E ≤ b) (hn_b : b + 1 ≤ N) : MF E yX2_startAnew cX2_startAnew 1 none 0 0 0 0 [.ref b] N (ov b (metC E b sa gr ho hw su) G) none (ov b (metC E b 0 0 0 0 0) G) := by
  refine MF.mk RX2 rfl (by decide +kernel) rfl (fun K C Z hin hN => ?_)
  show XW E K 1 N 0 0 _ 0 [(0, .ref b)] []
  refine x_aload_n C dX2_startAnew_0 0 rfl ?_
  refine x_iconst C 0 dX2_startAnew_1 rfl ?_
  refine x_put (G' := ov b (metC E b 0 gr ho hw su) G) C (xlo (i := 0) hb_b) (xhi (i := 0) hn_b rfl) (ov_at (i := 0) rfl) f_X2_13 xt_X2 rfl rfl rfl rfl (ov_set (i := 0) rfl rfl) dX2_startAnew_2 ?_
  refine x_aload_n C dX2_startAnew_5 0 rfl ?_
  refine x_iconst C 0 dX2_startAnew_6 rfl ?_
  refine x_put (G' := ov b (metC E b 0 0 ho hw su) G) C (xlo (i := 0) hb_b) (xhi (i := 0) hn_b rfl) (ov_at (i := 0) rfl) f_X2_23 xt_X2 rfl rfl rfl rfl (ov_set (i := 0) rfl rfl) dX2_startAnew_7 ?_
  refine x_aload_n C dX2_startAnew_10 0 rfl ?_
  refine x_iconst C 0 dX2_startAnew_11 rfl ?_
  refine x_put (G' := ov b (metC E b 0 0 0 hw su) G) C (xlo (i := 0) hb_b) (xhi (i := 0) hn_b rfl) (ov_at (i := 0) rfl) f_X2_30 xt_X2 rfl rfl rfl rfl (ov_set (i := 0) rfl rfl) dX2_startAnew_12 ?_
  refine x_aload_n C dX2_startAnew_15 0 rfl ?_
  refine x_iconst C 0 dX2_startAnew_16 rfl ?_
  refine x_put (G' := ov b (metC E b 0 0 0 0 su) G) C (xlo (i := 0) hb_b) (xhi (i := 0) hn_b rfl) (ov_at (i := 0) rfl) f_X2_33 xt_X2 rfl rfl rfl rfl (ov_set (i := 0) rfl rfl) dX2_startAnew_17 ?_
  refine x_aload_n C dX2_startAnew_20 0 rfl ?_
  refine x_lconst C 0 dX2_startAnew_21 rfl ?_
  refine x_put (G' := ov b (metC E b 0 0 0 0 0) G) C (xlo (i := 0) hb_b) (xhi (i := 0) hn_b rfl) (ov_at (i := 0) rfl) f_X2_19 xt_X2 rfl rfl rfl rfl (ov_set (i := 0) rfl rfl) dX2_startAnew_22 ?_
  exact x_vret C Z rfl rfl rfl dX2_startAnew_25

set_option maxRecDepth 100000 in
set_option maxHeartbeats 4000000 in
theorem c_X7_characterAt (E : XE) (N b : Nat) (G : GW) (ch : Nat → Int32) (tl x : Int32) (hb_b : xB E ≤ b) (hn_b : b + 2 ≤ N) : MF E yX7_characterAt cX7_characterAt 2 (some .int) 0 0 0 0 [.ref b, .int x] N (ov b (txtC E b ch tl) G) (some (.int (tAt ch tl x))) (ov b (txtC E b ch tl) G) := by
  refine MF.mk RX7 rfl (by decide +kernel) rfl (fun K C Z hin hN => ?_)
  show XW E K 2 N 0 0 _ 0 [(0, .ref b), (1, .int x)] []
  refine x_iload_n C dX7_characterAt_0 1 rfl ?_
  refine x_if_lt C 18 dX7_characterAt_1 rfl (fun c1 => ?_) (fun c1 => ?_)
  · refine x_iconst C (-1) dX7_characterAt_18 rfl ?_
    exact x_iret C Z rfl rfl (by simp [tAt, c1]) rfl dX7_characterAt_19
  · refine x_iload_n C dX7_characterAt_4 1 rfl ?_
    refine x_aload_n C dX7_characterAt_5 0 rfl ?_
    refine x_get C (xlo (i := 0) hb_b) (xhi (i := 0) hn_b rfl) (ov_at (i := 0) rfl) f_X7_15 rfl dX7_characterAt_6 ?_
    refine x_icmp_ge C 18 dX7_characterAt_9 rfl (fun c9 => ?_) (fun c9 => ?_)
    · refine x_iconst C (-1) dX7_characterAt_18 rfl ?_
      exact x_iret C Z rfl rfl (by simp [tAt, c1, c9]) rfl dX7_characterAt_19
    · refine x_iload_n C dX7_characterAt_12 1 rfl ?_
      refine x_bipush C 60 dX7_characterAt_13 rfl ?_
      refine x_icmp_lt C 20 dX7_characterAt_15 rfl (fun c15 => ?_) (fun c15 => ?_)
      · refine x_aload_n C dX7_characterAt_20 0 rfl ?_
        refine x_get C (xlo (i := 0) hb_b) (xhi (i := 0) hn_b rfl) (ov_at (i := 0) rfl) f_X7_9 rfl dX7_characterAt_21 ?_
        refine x_iload_n C dX7_characterAt_24 1 rfl ?_
        refine x_iald C (ch x.toNatClampNeg) (xlo (i := 1) hb_b) (xhi (i := 1) hn_b rfl) (ov_at (i := 1) rfl) (vp_in_lt2 (M := 60) rfl c1 c15) rfl dX7_characterAt_25 ?_
        exact x_iret C Z rfl rfl (by simp [tAt, c1, c9, c15]) rfl dX7_characterAt_26
      · refine x_iconst C (-1) dX7_characterAt_18 rfl ?_
        exact x_iret C Z rfl rfl (by simp [tAt, c1, c9, c15]) rfl dX7_characterAt_19

set_option maxRecDepth 100000 in
set_option maxHeartbeats 4000000 in
theorem c_X7_append (E : XE) (N b : Nat) (G : GW) (ch : Nat → Int32) (tl x : Int32) (h0 : ¬ tl < 0) (h1 : tl < 60) (hb_b : xB E ≤ b) (hn_b : b + 2 ≤ N) : MF E yX7_append cX7_append 2 none 0 0 0 0 [.ref b, .int x] N (ov b (txtC E b ch tl) G) none (ov b (txtC E b (upd ch tl.toNatClampNeg x) (tl + 1)) G) := by
  refine MF.mk RX7 rfl (by decide +kernel) rfl (fun K C Z hin hN => ?_)
  show XW E K 2 N 0 0 _ 0 [(0, .ref b), (1, .int x)] []
  refine x_aload_n C dX7_append_0 0 rfl ?_
  refine x_get C (xlo (i := 0) hb_b) (xhi (i := 0) hn_b rfl) (ov_at (i := 0) rfl) f_X7_15 rfl dX7_append_1 ?_
  refine x_if_lt C 36 dX7_append_4 rfl (fun c => absurd c h0) (fun _ => ?_)
  refine x_aload_n C dX7_append_7 0 rfl ?_
  refine x_get C (xlo (i := 0) hb_b) (xhi (i := 0) hn_b rfl) (ov_at (i := 0) rfl) f_X7_15 rfl dX7_append_8 ?_
  refine x_bipush C 60 dX7_append_11 rfl ?_
  refine x_icmp_ge C 36 dX7_append_13 rfl (fun c => absurd c (not_le_of_lt32 h1)) (fun _ => ?_)
  refine x_aload_n C dX7_append_16 0 rfl ?_
  refine x_get C (xlo (i := 0) hb_b) (xhi (i := 0) hn_b rfl) (ov_at (i := 0) rfl) f_X7_9 rfl dX7_append_17 ?_
  refine x_aload_n C dX7_append_20 0 rfl ?_
  refine x_get C (xlo (i := 0) hb_b) (xhi (i := 0) hn_b rfl) (ov_at (i := 0) rfl) f_X7_15 rfl dX7_append_21 ?_
  refine x_iload_n C dX7_append_24 1 rfl ?_
  refine x_iast (G' := ov b (txtC E b (upd ch tl.toNatClampNeg x) tl) G) C tl.toNatClampNeg (xlo (i := 1) hb_b) (xhi (i := 1) hn_b rfl) (ov_at (i := 1) rfl) (vp_in_lt2 (M := 60) rfl h0 h1) rfl (ov_set (i := 1) rfl rfl) dX7_append_25 ?_
  refine x_aload_n C dX7_append_26 0 rfl ?_
  refine x_dup C dX7_append_27 rfl ?_
  refine x_get C (xlo (i := 0) hb_b) (xhi (i := 0) hn_b rfl) (ov_at (i := 0) rfl) f_X7_15 rfl dX7_append_28 ?_
  refine x_iconst C 1 dX7_append_31 rfl ?_
  refine x_iadd C dX7_append_32 ?_
  refine x_put (G' := ov b (txtC E b (upd ch tl.toNatClampNeg x) (tl + 1)) G) C (xlo (i := 0) hb_b) (xhi (i := 0) hn_b rfl) (ov_at (i := 0) rfl) f_X7_15 xt_X7 rfl rfl rfl rfl (ov_set (i := 0) rfl rfl) dX7_append_33 ?_
  exact x_vret C Z rfl rfl rfl dX7_append_36

set_option maxRecDepth 100000 in
set_option maxHeartbeats 4000000 in
theorem c_X3_numberAt (E : XE) (N b : Nat) (G : GW) (nu : Nat → Int32) (ki en wh x : Int32) (hb_b : xB E ≤ b) (hn_b : b + 2 ≤ N) : MF E yX3_numberAt cX3_numberAt 2 (some .int) 0 0 0 0 [.ref b, .int x] N (ov b (ordC E b nu ki en wh) G) (some (.int (nAt nu x))) (ov b (ordC E b nu ki en wh) G) := by
  refine MF.mk RX3 rfl (by decide +kernel) rfl (fun K C Z hin hN => ?_)
  show XW E K 2 N 0 0 _ 0 [(0, .ref b), (1, .int x)] []
  refine x_iload_n C dX3_numberAt_0 1 rfl ?_
  refine x_if_lt C 18 dX3_numberAt_1 rfl (fun c1 => ?_) (fun c1 => ?_)
  · refine x_iconst C 0 dX3_numberAt_18 rfl ?_
    exact x_iret C Z rfl rfl (by simp [nAt, c1]) rfl dX3_numberAt_19
  · refine x_iload_n C dX3_numberAt_4 1 rfl ?_
    refine x_iconst C 3 dX3_numberAt_5 rfl ?_
    refine x_icmp_ge C 18 dX3_numberAt_6 rfl (fun c6 => ?_) (fun c6 => ?_)
    · refine x_iconst C 0 dX3_numberAt_18 rfl ?_
      exact x_iret C Z rfl rfl (by simp [nAt, c1, c6]) rfl dX3_numberAt_19
    · refine x_aload_n C dX3_numberAt_9 0 rfl ?_
      refine x_get C (xlo (i := 0) hb_b) (xhi (i := 0) hn_b rfl) (ov_at (i := 0) rfl) f_X3_9 rfl dX3_numberAt_10 ?_
      refine x_iload_n C dX3_numberAt_13 1 rfl ?_
      refine x_iald C (nu x.toNatClampNeg) (xlo (i := 1) hb_b) (xhi (i := 1) hn_b rfl) (ov_at (i := 1) rfl) (vp_in_lt (M := 3) rfl c1 c6) rfl dX3_numberAt_14 ?_
      refine x_goto C 19 dX3_numberAt_15 rfl ?_
      exact x_iret C Z rfl rfl (by simp [nAt, c1, c6]) rfl dX3_numberAt_19

set_option maxRecDepth 100000 in
set_option maxHeartbeats 4000000 in
theorem c_X3_isDigit (E : XE) (N : Nat) (G : GW) (x : Int32) : MF E yX3_isDigit cX3_isDigit 1 (some .boolean) 0 0 0 0 [.int x] N (G) (some (.int (bI (isDg x)))) (G) := by
  refine MF.mk RX3 rfl (by decide +kernel) rfl (fun K C Z hin hN => ?_)
  show XW E K 1 N 0 0 _ 0 [(0, .int x)] []
  refine x_iload_n C dX3_isDigit_0 0 rfl ?_
  refine x_bipush C 48 dX3_isDigit_1 rfl ?_
  refine x_icmp_lt C 16 dX3_isDigit_3 rfl (fun c3 => ?_) (fun c3 => ?_)
  · refine x_iconst C 0 dX3_isDigit_16 rfl ?_
    exact x_iret C Z rfl rfl (by simp [bI, isDg, c3]) rfl dX3_isDigit_17
  · refine x_iload_n C dX3_isDigit_6 0 rfl ?_
    refine x_bipush C 57 dX3_isDigit_7 rfl ?_
    refine x_icmp_gt C 16 dX3_isDigit_9 rfl (fun c9 => ?_) (fun c9 => ?_)
    · refine x_iconst C 0 dX3_isDigit_16 rfl ?_
      exact x_iret C Z rfl rfl (by simp [bI, isDg, c3, c9]) rfl dX3_isDigit_17
    · refine x_iconst C 1 dX3_isDigit_12 rfl ?_
      refine x_goto C 17 dX3_isDigit_13 rfl ?_
      exact x_iret C Z rfl rfl (by simp [bI, isDg, c3, c9]) rfl dX3_isDigit_17
end
section
/-! ===== a state ===== -/
theorem rowOk_in {x : Int32} (h : rowOk x = true) : vp_in x 5 := by
  simp only [rowOk, Bool.and_eq_true, Bool.not_eq_true', decide_eq_false_iff_not] at h
  exact vp_in_lt (M := 5) rfl h.1 h.2
theorem bbI (P : Prop) [Decidable P] : (if (if P then (0 : Int32) else 1) = 0 then (0 : Int32) else 1) = if P then 0 else 1 := by split <;> rfl
def sDel (v : SV) (r : Int32) : Int32 := if rowOk r = true then vDe v r.toNatClampNeg else 0
def sGai (v : SV) (r : Int32) : Int32 := if rowOk r = true then vGa v r.toNatClampNeg else 0
def sPut (v : SV) (r d g : Int32) : SV := if rowOk r = true then mkS (vW v) (vFi v) (vLe v) (vRo v) (vNe v) (vKe v) (vSa v) (vGr v) (vHo v) (vHw v) (vSu v) (upd (vDe v) r.toNatClampNeg d) (upd (vGa v) r.toNatClampNeg g) (vLi v) (vSh v) (vSl v) else v
def sOn (v : SV) (r : Int32) : Bool := !decide (sDel v r = 0)
def sLost (v : SV) (r : Int32) : Bool := !decide (sDel v r ≤ vLe v)
def sRead (v : SV) (r : Int32) : Int32 := if rowOk r = true then rAt (vW v) (vFi v) (vLe v) (vDe v r.toNatClampNeg - 1) else 0
def sShare (v : SV) (r : Int32) : Int32 := if rowOk r = true then jth (vGa v r.toNatClampNeg) (sRead v r) else 0
def sSum (v : SV) (x : Int32) : Int32 := x + sShare v 0 + sShare v 1 + sShare v 2 + sShare v 3
def sFed (v : SV) (x : Int32) : Int32 := x + sShare v 4
def sOut (v : SV) (x : Int32) : Int32 := shp (sSum v x) (vSh v) (vLi v)
def sWrd (v : SV) (x : Int32) : Int32 := shp (sFed v x) (vSh v) (vLi v)
def sLet (v : SV) (x : Int32) : SV := mkS (rWr (vW v) (vFi v) (sWrd v x)) (rFi (vFi v)) (vLe v) (upd (vRo v) (oNx (vNe v)).toNatClampNeg (sOut v x)) (oNx (vNe v) + 1) (imin (vKe v + 1) 12) (vSa v + 1) (imax (vGr v) (iabs (sOut v x))) (vHo v + (if sOut v x = sSum v x then 0 else 1)) (vHw v + (if sWrd v x = sFed v x then 0 else 1)) (vSu v + (iabs (sOut v x)).toInt64) (vDe v) (vGa v) (vLi v) (vSh v) (vSl v)
def sSil (v : SV) : Nat → SV × Int32
  | 0 => (v, 0)
  | n + 1 => (sLet (sSil v n).1 0, imax (sSil v n).2 (iabs (sOut (sSil v n).1 0)))
def sFeed (v : SV) (x : Int32) : SV := mkS (rWr (vW v) (vFi v) (sWrd v x)) (rFi (vFi v)) (vLe v) (vRo v) (vNe v) (vKe v) (vSa v) (vGr v) (vHo v) (vHw v) (vSu v) (vDe v) (vGa v) (vLi v) (vSh v) (vSl v)
def sTak (v : SV) (x : Int32) : SV := mkS (vW v) (vFi v) (imax (vLe v - x) 0) (vRo v) (vNe v) (vKe v) (vSa v) (vGr v) (vHo v) (vHw v) (vSu v) (vDe v) (vGa v) (vLi v) (vSh v) (vSl v + x)
def sSet (v : SV) (w x : Int32) : SV := if w = 0 then mkS (vW v) (vFi v) (vLe v) (vRo v) (vNe v) (vKe v) (vSa v) (vGr v) (vHo v) (vHw v) (vSu v) (vDe v) (vGa v) x (vSh v) (vSl v) else mkS (vW v) (vFi v) (vLe v) (vRo v) (vNe v) (vKe v) (vSa v) (vGr v) (vHo v) (vHw v) (vSu v) (vDe v) (vGa v) (vLi v) x (vSl v)
def sCpy (v u : SV) : SV := mkS (va_cpy (vW u) (vW v) 0 0 64) (vFi u) (vLe u) (va_cpy (vRo u) (vRo v) 0 0 12) (vNe u) (vKe u) (vSa u) (vGr u) (vHo u) (vHw u) (vSu u) (va_cpy (vDe u) (vDe v) 0 0 5) (va_cpy (vGa u) (vGa v) 0 0 5) (vLi u) (vSh u) (vSl u)
def fillI (w : Nat → Int32) (x : Int32) : Nat → (Nat → Int32)
  | 0 => w
  | n + 1 => upd (fillI w x n) n x
def arrC (E : XE) (b : Nat) (w : Nat → Int32) : List va_E := [ia E 64 w]
set_option maxRecDepth 100000 in
set_option maxHeartbeats 4000000 in
theorem c_X6_delayOf (E : XE) (N b : Nat) (G : GW) (v : SV) (r : Int32) (hb_b : xB E ≤ b) (hn_b : b + 8 ≤ N) : MF E yX6_delayOf cX6_delayOf 2 (some .int) 1 20 0 0 [.ref b, .int r] N (ov b (stT E b v) G) (some (.int (sDel v r))) (ov b (stT E b v) G) := by
  refine MF.mk RX6 rfl (by decide +kernel) rfl (fun K C Z hin hN => ?_)
  show XW E K 2 N 0 0 _ 0 [(0, .ref b), (1, .int r)] []
  refine x_iload_n C dX6_delayOf_0 1 rfl ?_
  refine x_cS1 C (c_X6_isRow E N _ r) v_X6_43 hN rfl rfl rfl rfl dX6_delayOf_1 ?_
  refine x_ifb_eq C 16 dX6_delayOf_4 rfl (fun c4 => ?_) (fun c4 => ?_)
  · refine x_iconst C 0 dX6_delayOf_16 rfl ?_
    exact x_iret C Z rfl rfl (by simp [sDel, c4]) rfl dX6_delayOf_17
  · refine x_aload_n C dX6_delayOf_7 0 rfl ?_
    refine x_get C (xlo (i := 0) hb_b) (xhi (i := 0) hn_b rfl) (ov_at (i := 0) rfl) f_X6_32 rfl dX6_delayOf_8 ?_
    refine x_iload_n C dX6_delayOf_11 1 rfl ?_
    refine x_iald C ((vDe v) r.toNatClampNeg) (xlo (i := 6) hb_b) (xhi (i := 6) hn_b rfl) (ov_at (i := 6) rfl) (rowOk_in c4) rfl dX6_delayOf_12 ?_
    refine x_goto C 17 dX6_delayOf_13 rfl ?_
    exact x_iret C Z rfl rfl (by simp [sDel, c4]) rfl dX6_delayOf_17

set_option maxRecDepth 100000 in
set_option maxHeartbeats 4000000 in
theorem c_X6_gainOf (E : XE) (N b : Nat) (G : GW) (v : SV) (r : Int32) (hb_b : xB E ≤ b) (hn_b : b + 8 ≤ N) : MF E yX6_gainOf cX6_gainOf 2 (some .int) 1 20 0 0 [.ref b, .int r] N (ov b (stT E b v) G) (some (.int (sGai v r))) (ov b (stT E b v) G) := by
  refine MF.mk RX6 rfl (by decide +kernel) rfl (fun K C Z hin hN => ?_)
  show XW E K 2 N 0 0 _ 0 [(0, .ref b), (1, .int r)] []
  refine x_iload_n C dX6_gainOf_0 1 rfl ?_
  refine x_cS1 C (c_X6_isRow E N _ r) v_X6_43 hN rfl rfl rfl rfl dX6_gainOf_1 ?_
  refine x_ifb_eq C 16 dX6_gainOf_4 rfl (fun c4 => ?_) (fun c4 => ?_)
  · refine x_iconst C 0 dX6_gainOf_16 rfl ?_
    exact x_iret C Z rfl rfl (by simp [sGai, c4]) rfl dX6_gainOf_17
  · refine x_aload_n C dX6_gainOf_7 0 rfl ?_
    refine x_get C (xlo (i := 0) hb_b) (xhi (i := 0) hn_b rfl) (ov_at (i := 0) rfl) f_X6_36 rfl dX6_gainOf_8 ?_
    refine x_iload_n C dX6_gainOf_11 1 rfl ?_
    refine x_iald C ((vGa v) r.toNatClampNeg) (xlo (i := 7) hb_b) (xhi (i := 7) hn_b rfl) (ov_at (i := 7) rfl) (rowOk_in c4) rfl dX6_gainOf_12 ?_
    refine x_goto C 17 dX6_gainOf_13 rfl ?_
    exact x_iret C Z rfl rfl (by simp [sGai, c4]) rfl dX6_gainOf_17

set_option maxRecDepth 100000 in
set_option maxHeartbeats 4000000 in
theorem c_X6_putRow (E : XE) (N b : Nat) (G : GW) (v : SV) (r d g : Int32) (hb_b : xB E ≤ b) (hn_b : b + 8 ≤ N) : MF E yX6_putRow cX6_putRow 4 none 1 20 0 0 [.ref b, .int r, .int d, .int g] N (ov b (stT E b v) G) none (ov b (stT E b (sPut v r d g)) G) := by
  refine MF.mk RX6 rfl (by decide +kernel) rfl (fun K C Z hin hN => ?_)
  show XW E K 4 N 0 0 _ 0 [(0, .ref b), (1, .int r), (2, .int d), (3, .int g)] []
  refine x_iload_n C dX6_putRow_0 1 rfl ?_
  refine x_cS1 C (c_X6_isRow E N _ r) v_X6_43 hN rfl rfl rfl rfl dX6_putRow_1 ?_
  refine x_ifb_eq C 21 dX6_putRow_4 rfl (fun c4 => ?_) (fun c4 => ?_)
  · exact x_vret C Z rfl rfl (by simp [sPut, c4]) dX6_putRow_21
  · refine x_aload_n C dX6_putRow_7 0 rfl ?_
    refine x_get C (xlo (i := 0) hb_b) (xhi (i := 0) hn_b rfl) (ov_at (i := 0) rfl) f_X6_32 rfl dX6_putRow_8 ?_
    refine x_iload_n C dX6_putRow_11 1 rfl ?_
    refine x_iload_n C dX6_putRow_12 2 rfl ?_
    refine x_iast (G' := ov b (stT E b (mkS (vW v) (vFi v) (vLe v) (vRo v) (vNe v) (vKe v) (vSa v) (vGr v) (vHo v) (vHw v) (vSu v) (upd (vDe v) r.toNatClampNeg d) (vGa v) (vLi v) (vSh v) (vSl v))) G) C r.toNatClampNeg (xlo (i := 6) hb_b) (xhi (i := 6) hn_b rfl) (ov_at (i := 6) rfl) (rowOk_in c4) rfl (ov_set (i := 6) rfl rfl) dX6_putRow_13 ?_
    refine x_aload_n C dX6_putRow_14 0 rfl ?_
    refine x_get C (xlo (i := 0) hb_b) (xhi (i := 0) hn_b rfl) (ov_at (i := 0) rfl) f_X6_36 rfl dX6_putRow_15 ?_
    refine x_iload_n C dX6_putRow_18 1 rfl ?_
    refine x_iload_n C dX6_putRow_19 3 rfl ?_
    refine x_iast (G' := ov b (stT E b (mkS (vW v) (vFi v) (vLe v) (vRo v) (vNe v) (vKe v) (vSa v) (vGr v) (vHo v) (vHw v) (vSu v) (upd (vDe v) r.toNatClampNeg d) (upd (vGa v) r.toNatClampNeg g) (vLi v) (vSh v) (vSl v))) G) C r.toNatClampNeg (xlo (i := 7) hb_b) (xhi (i := 7) hn_b rfl) (ov_at (i := 7) rfl) (rowOk_in c4) rfl (ov_set (i := 7) rfl rfl) dX6_putRow_20 ?_
    exact x_vret C Z rfl rfl (by simp [sPut, c4]) dX6_putRow_21

set_option maxRecDepth 100000 in
set_option maxHeartbeats 4000000 in
theorem c_X6_isOn (E : XE) (N b : Nat) (G : GW) (v : SV) (r : Int32) (hb_b : xB E ≤ b) (hn_b : b + 8 ≤ N) : MF E yX6_isOn cX6_isOn 2 (some .boolean) 2 41 0 0 [.ref b, .int r] N (ov b (stT E b v) G) (some (.int (bI (sOn v r)))) (ov b (stT E b v) G) := by
  refine MF.mk RX6 rfl (by decide +kernel) rfl (fun K C Z hin hN => ?_)
  show XW E K 2 N 0 0 _ 0 [(0, .ref b), (1, .int r)] []
  refine x_aload_n C dX6_isOn_0 0 rfl ?_
  refine x_iload_n C dX6_isOn_1 1 rfl ?_
  refine x_cV1 C (c_X6_delayOf E N b _ v r hb_b hn_b) v_X6_47 hN (xlo (i := 0) hb_b) (xhi (i := 0) hn_b rfl) (ov_at (i := 0) rfl) rfl rfl rfl rfl rfl dX6_isOn_2 ?_
  refine x_if_eq C 12 dX6_isOn_5 rfl (fun c5 => ?_) (fun c5 => ?_)
  · refine x_iconst C 0 dX6_isOn_12 rfl ?_
    exact x_iret C Z rfl rfl (by simp [sOn, bI, c5]) rfl dX6_isOn_13
  · refine x_iconst C 1 dX6_isOn_8 rfl ?_
    refine x_goto C 13 dX6_isOn_9 rfl ?_
    exact x_iret C Z rfl rfl (by simp [sOn, bI, c5]) rfl dX6_isOn_13

set_option maxRecDepth 100000 in
set_option maxHeartbeats 4000000 in
theorem c_X6_isLost (E : XE) (N b : Nat) (G : GW) (v : SV) (r : Int32) (hb_b : xB E ≤ b) (hn_b : b + 8 ≤ N) : MF E yX6_isLost cX6_isLost 2 (some .boolean) 2 41 0 0 [.ref b, .int r] N (ov b (stT E b v) G) (some (.int (bI (sLost v r)))) (ov b (stT E b v) G) := by
  refine MF.mk RX6 rfl (by decide +kernel) rfl (fun K C Z hin hN => ?_)
  show XW E K 2 N 0 0 _ 0 [(0, .ref b), (1, .int r)] []
  refine x_aload_n C dX6_isLost_0 0 rfl ?_
  refine x_iload_n C dX6_isLost_1 1 rfl ?_
  refine x_cV1 C (c_X6_delayOf E N b _ v r hb_b hn_b) v_X6_47 hN (xlo (i := 0) hb_b) (xhi (i := 0) hn_b rfl) (ov_at (i := 0) rfl) rfl rfl rfl rfl rfl dX6_isLost_2 ?_
  refine x_aload_n C dX6_isLost_5 0 rfl ?_
  refine x_get C (xlo (i := 0) hb_b) (xhi (i := 0) hn_b rfl) (ov_at (i := 0) rfl) f_X6_12 rfl dX6_isLost_6 ?_
  refine x_get C (xlo (i := 1) hb_b) (xhi (i := 1) hn_b rfl) (ov_at (i := 1) rfl) f_X6_51 rfl dX6_isLost_9 ?_
  refine x_icmp_le C 19 dX6_isLost_12 rfl (fun c12 => ?_) (fun c12 => ?_)
  · refine x_iconst C 0 dX6_isLost_19 rfl ?_
    exact x_iret C Z rfl rfl (by simp [sLost, bI, c12]) rfl dX6_isLost_20
  · refine x_iconst C 1 dX6_isLost_15 rfl ?_
    refine x_goto C 20 dX6_isLost_16 rfl ?_
    exact x_iret C Z rfl rfl (by simp [sLost, bI, c12]) rfl dX6_isLost_20

set_option maxRecDepth 100000 in
set_option maxHeartbeats 4000000 in
theorem c_X6_readingOf (E : XE) (N b : Nat) (G : GW) (v : SV) (r : Int32) (hb_b : xB E ≤ b) (hn_b : b + 8 ≤ N) : MF E yX6_readingOf cX6_readingOf 2 (some .int) 1 21 0 0 [.ref b, .int r] N (ov b (stT E b v) G) (some (.int (sRead v r))) (ov b (stT E b v) G) := by
  refine MF.mk RX6 rfl (by decide +kernel) rfl (fun K C Z hin hN => ?_)
  show XW E K 2 N 0 0 _ 0 [(0, .ref b), (1, .int r)] []
  refine x_iload_n C dX6_readingOf_0 1 rfl ?_
  refine x_cS1 C (c_X6_isRow E N _ r) v_X6_43 hN rfl rfl rfl rfl dX6_readingOf_1 ?_
  refine x_ifb_eq C 25 dX6_readingOf_4 rfl (fun c4 => ?_) (fun c4 => ?_)
  · refine x_iconst C 0 dX6_readingOf_25 rfl ?_
    exact x_iret C Z rfl rfl (by simp [sRead, c4]) rfl dX6_readingOf_26
  · refine x_aload_n C dX6_readingOf_7 0 rfl ?_
    refine x_get C (xlo (i := 0) hb_b) (xhi (i := 0) hn_b rfl) (ov_at (i := 0) rfl) f_X6_12 rfl dX6_readingOf_8 ?_
    refine x_aload_n C dX6_readingOf_11 0 rfl ?_
    refine x_get C (xlo (i := 0) hb_b) (xhi (i := 0) hn_b rfl) (ov_at (i := 0) rfl) f_X6_32 rfl dX6_readingOf_12 ?_
    refine x_iload_n C dX6_readingOf_15 1 rfl ?_
    refine x_iald C ((vDe v) r.toNatClampNeg) (xlo (i := 6) hb_b) (xhi (i := 6) hn_b rfl) (ov_at (i := 6) rfl) (rowOk_in c4) rfl dX6_readingOf_16 ?_
    refine x_iconst C 1 dX6_readingOf_17 rfl ?_
    refine x_isub C dX6_readingOf_18 ?_
    refine x_cV1 C (MF.sliceR (i := 1) (n := 2) rfl (c_X5_wordAt E N (b + 1) _ (vW v) (vFi v) (vLe v) (((vDe v) r.toNatClampNeg) - 1) (xlo (i := 1) hb_b) (xhn (i := 1) (n := 2) hn_b rfl))) v_X6_54 hN (xlo (i := 1) hb_b) (xhi (i := 1) hn_b rfl) (ov_at (i := 1) rfl) rfl rfl rfl rfl rfl dX6_readingOf_19 ?_
    refine x_goto C 26 dX6_readingOf_22 rfl ?_
    exact x_iret C Z rfl rfl (by simp [sRead, c4]) rfl dX6_readingOf_26

set_option maxRecDepth 100000 in
set_option maxHeartbeats 4000000 in
theorem c_X6_shareOf (E : XE) (N b : Nat) (G : GW) (v : SV) (r : Int32) (hb_b : xB E ≤ b) (hn_b : b + 8 ≤ N) : MF E yX6_shareOf cX6_shareOf 2 (some .int) 2 42 0 0 [.ref b, .int r] N (ov b (stT E b v) G) (some (.int (sShare v r))) (ov b (stT E b v) G) := by
  refine MF.mk RX6 rfl (by decide +kernel) rfl (fun K C Z hin hN => ?_)
  show XW E K 2 N 0 0 _ 0 [(0, .ref b), (1, .int r)] []
  refine x_iload_n C dX6_shareOf_0 1 rfl ?_
  refine x_cS1 C (c_X6_isRow E N _ r) v_X6_43 hN rfl rfl rfl rfl dX6_shareOf_1 ?_
  refine x_ifb_eq C 24 dX6_shareOf_4 rfl (fun c4 => ?_) (fun c4 => ?_)
  · refine x_iconst C 0 dX6_shareOf_24 rfl ?_
    exact x_iret C Z rfl rfl (by simp [sShare, c4]) rfl dX6_shareOf_25
  · refine x_aload_n C dX6_shareOf_7 0 rfl ?_
    refine x_get C (xlo (i := 0) hb_b) (xhi (i := 0) hn_b rfl) (ov_at (i := 0) rfl) f_X6_36 rfl dX6_shareOf_8 ?_
    refine x_iload_n C dX6_shareOf_11 1 rfl ?_
    refine x_iald C ((vGa v) r.toNatClampNeg) (xlo (i := 7) hb_b) (xhi (i := 7) hn_b rfl) (ov_at (i := 7) rfl) (rowOk_in c4) rfl dX6_shareOf_12 ?_
    refine x_aload_n C dX6_shareOf_13 0 rfl ?_
    refine x_iload_n C dX6_shareOf_14 1 rfl ?_
    refine x_cV1 C (c_X6_readingOf E N b _ v r hb_b hn_b) v_X6_57 hN (xlo (i := 0) hb_b) (xhi (i := 0) hn_b rfl) (ov_at (i := 0) rfl) rfl rfl rfl rfl rfl dX6_shareOf_15 ?_
    refine x_cSN1 C (c_X8_thousandths E N _ ((vGa v) r.toNatClampNeg) (sRead v r)) v_X6_60 hN rfl rfl rfl rfl dX6_shareOf_18 ?_
    refine x_goto C 25 dX6_shareOf_21 rfl ?_
    exact x_iret C Z rfl rfl (by simp [sShare, c4]) rfl dX6_shareOf_25

set_option maxRecDepth 100000 in
set_option maxHeartbeats 4000000 in
theorem c_X6_letThrough (E : XE) (N b : Nat) (G : GW) (v : SV) (x : Int32) (hb_b : xB E ≤ b) (hn_b : b + 8 ≤ N) : MF E yX6_letThrough cX6_letThrough 6 (some .int) 3 63 0 0 [.ref b, .int x] N (ov b (stT E b v) G) (some (.int (sOut v x))) (ov b (stT E b (sLet v x)) G) := by
  refine MF.mk RX6 rfl (by decide +kernel) rfl (fun K C Z hin hN => ?_)
  show XW E K 6 N 0 0 _ 0 [(0, .ref b), (1, .int x)] []
  refine x_iload_n C dX6_letThrough_0 1 rfl ?_
  refine x_istore_n (L' := [(2, .int x), (0, .ref b), (1, .int x)]) C dX6_letThrough_1 rfl rfl ?_
  refine x_iconst C 0 dX6_letThrough_2 rfl ?_
  refine x_istore_n (L' := [(3, .int 0), (2, .int x), (0, .ref b), (1, .int x)]) C dX6_letThrough_3 rfl rfl ?_
  refine x_iload_n C dX6_letThrough_4 0 rfl ?_
  refine x_iconst C 4 dX6_letThrough_5 rfl ?_
  refine x_icmp_ge C 23 dX6_letThrough_6 rfl (fun c => absurd c (by decide)) (fun _ => ?_)
  refine x_iload_n C dX6_letThrough_9 1 rfl ?_
  refine x_aload_n C dX6_letThrough_10 2 rfl ?_
  refine x_iload_n C dX6_letThrough_11 0 rfl ?_
  refine x_cV1 C (c_X6_shareOf E N b _ v 0 hb_b hn_b) v_X6_64 hN (xlo (i := 0) hb_b) (xhi (i := 0) hn_b rfl) (ov_at (i := 0) rfl) rfl rfl rfl rfl rfl dX6_letThrough_12 ?_
  refine x_iadd C dX6_letThrough_15 ?_
  refine x_istore_n (L' := [(2, .int (x + (sShare v 0))), (3, .int 0), (0, .ref b), (1, .int x)]) C dX6_letThrough_16 rfl rfl ?_
  refine x_iinc (L' := [(3, .int 1), (2, .int (x + (sShare v 0))), (0, .ref b), (1, .int x)]) C 1 dX6_letThrough_17 1 rfl rfl rfl rfl ?_
  refine x_goto C 4 dX6_letThrough_20 rfl ?_
  refine x_iload_n C dX6_letThrough_4 0 rfl ?_
  refine x_iconst C 4 dX6_letThrough_5 rfl ?_
  refine x_icmp_ge C 23 dX6_letThrough_6 rfl (fun c => absurd c (by decide)) (fun _ => ?_)
  refine x_iload_n C dX6_letThrough_9 1 rfl ?_
  refine x_aload_n C dX6_letThrough_10 2 rfl ?_
  refine x_iload_n C dX6_letThrough_11 0 rfl ?_
  refine x_cV1 C (c_X6_shareOf E N b _ v 1 hb_b hn_b) v_X6_64 hN (xlo (i := 0) hb_b) (xhi (i := 0) hn_b rfl) (ov_at (i := 0) rfl) rfl rfl rfl rfl rfl dX6_letThrough_12 ?_
  refine x_iadd C dX6_letThrough_15 ?_
  refine x_topi (fun z1 ez1 => ?_)
  refine x_istore_n (L' := [(2, .int z1), (3, .int 1), (0, .ref b), (1, .int x)]) C dX6_letThrough_16 rfl rfl ?_
  refine x_iinc (L' := [(3, .int 2), (2, .int z1), (0, .ref b), (1, .int x)]) C 2 dX6_letThrough_17 1 rfl rfl rfl rfl ?_
  refine x_goto C 4 dX6_letThrough_20 rfl ?_
  refine x_iload_n C dX6_letThrough_4 0 rfl ?_
  refine x_iconst C 4 dX6_letThrough_5 rfl ?_
  refine x_icmp_ge C 23 dX6_letThrough_6 rfl (fun c => absurd c (by decide)) (fun _ => ?_)
  refine x_iload_n C dX6_letThrough_9 1 rfl ?_
  refine x_aload_n C dX6_letThrough_10 2 rfl ?_
  refine x_iload_n C dX6_letThrough_11 0 rfl ?_
  refine x_cV1 C (c_X6_shareOf E N b _ v 2 hb_b hn_b) v_X6_64 hN (xlo (i := 0) hb_b) (xhi (i := 0) hn_b rfl) (ov_at (i := 0) rfl) rfl rfl rfl rfl rfl dX6_letThrough_12 ?_
  refine x_iadd C dX6_letThrough_15 ?_
  refine x_istore_n (L' := [(2, .int (z1 + (sShare v 2))), (3, .int 2), (0, .ref b), (1, .int x)]) C dX6_letThrough_16 rfl rfl ?_
  refine x_iinc (L' := [(3, .int 3), (2, .int (z1 + (sShare v 2))), (0, .ref b), (1, .int x)]) C 3 dX6_letThrough_17 1 rfl rfl rfl rfl ?_
  refine x_goto C 4 dX6_letThrough_20 rfl ?_
  refine x_iload_n C dX6_letThrough_4 0 rfl ?_
  refine x_iconst C 4 dX6_letThrough_5 rfl ?_
  refine x_icmp_ge C 23 dX6_letThrough_6 rfl (fun c => absurd c (by decide)) (fun _ => ?_)
  refine x_iload_n C dX6_letThrough_9 1 rfl ?_
  refine x_aload_n C dX6_letThrough_10 2 rfl ?_
  refine x_iload_n C dX6_letThrough_11 0 rfl ?_
  refine x_cV1 C (c_X6_shareOf E N b _ v 3 hb_b hn_b) v_X6_64 hN (xlo (i := 0) hb_b) (xhi (i := 0) hn_b rfl) (ov_at (i := 0) rfl) rfl rfl rfl rfl rfl dX6_letThrough_12 ?_
  refine x_iadd C dX6_letThrough_15 ?_
  refine x_topi (fun z2 ez2 => ?_)
  refine x_istore_n (L' := [(2, .int z2), (3, .int 3), (0, .ref b), (1, .int x)]) C dX6_letThrough_16 rfl rfl ?_
  refine x_iinc (L' := [(3, .int 4), (2, .int z2), (0, .ref b), (1, .int x)]) C 4 dX6_letThrough_17 1 rfl rfl rfl rfl ?_
  refine x_goto C 4 dX6_letThrough_20 rfl ?_
  refine x_iload_n C dX6_letThrough_4 0 rfl ?_
  refine x_iconst C 4 dX6_letThrough_5 rfl ?_
  refine x_icmp_ge C 23 dX6_letThrough_6 rfl (fun _ => ?_) (fun c => absurd c (by decide))
  refine x_iload_n C dX6_letThrough_23 3 rfl ?_
  refine x_aload_n C dX6_letThrough_24 2 rfl ?_
  refine x_iconst C 4 dX6_letThrough_25 rfl ?_
  refine x_cV1 C (c_X6_shareOf E N b _ v 4 hb_b hn_b) v_X6_64 hN (xlo (i := 0) hb_b) (xhi (i := 0) hn_b rfl) (ov_at (i := 0) rfl) rfl rfl rfl rfl rfl dX6_letThrough_26 ?_
  refine x_iadd C dX6_letThrough_29 ?_
  refine x_istore_n (L' := [(3, .int (x + (sShare v 4))), (2, .int z2), (0, .ref b), (1, .int x)]) C dX6_letThrough_30 rfl rfl ?_
  refine x_iload_n C dX6_letThrough_31 1 rfl ?_
  refine x_aload_n C dX6_letThrough_32 2 rfl ?_
  refine x_get C (xlo (i := 0) hb_b) (xhi (i := 0) hn_b rfl) (ov_at (i := 0) rfl) f_X6_67 rfl dX6_letThrough_33 ?_
  refine x_aload_n C dX6_letThrough_36 2 rfl ?_
  refine x_get C (xlo (i := 0) hb_b) (xhi (i := 0) hn_b rfl) (ov_at (i := 0) rfl) f_X6_39 rfl dX6_letThrough_37 ?_
  refine x_cSN1 C (c_X8_shaped E N _ z2 (vSh v) (vLi v)) v_X6_70 hN rfl rfl rfl rfl dX6_letThrough_40 ?_
  refine x_istore (L' := [(4, .int (shp z2 (vSh v) (vLi v))), (3, .int (x + (sShare v 4))), (2, .int z2), (0, .ref b), (1, .int x)]) C dX6_letThrough_43 rfl rfl ?_
  refine x_iload_n C dX6_letThrough_45 1 rfl ?_
  refine x_aload_n C dX6_letThrough_46 3 rfl ?_
  refine x_get C (xlo (i := 0) hb_b) (xhi (i := 0) hn_b rfl) (ov_at (i := 0) rfl) f_X6_67 rfl dX6_letThrough_47 ?_
  refine x_aload_n C dX6_letThrough_50 3 rfl ?_
  refine x_get C (xlo (i := 0) hb_b) (xhi (i := 0) hn_b rfl) (ov_at (i := 0) rfl) f_X6_39 rfl dX6_letThrough_51 ?_
  refine x_cSN1 C (c_X8_shaped E N _ (x + (sShare v 4)) (vSh v) (vLi v)) v_X6_70 hN rfl rfl rfl rfl dX6_letThrough_54 ?_
  refine x_topi (fun z3 ez3 => ?_)
  refine x_istore (L' := [(5, .int z3), (4, .int (shp z2 (vSh v) (vLi v))), (3, .int (x + (sShare v 4))), (2, .int z2), (0, .ref b), (1, .int x)]) C dX6_letThrough_57 rfl rfl ?_
  refine x_aload_n C dX6_letThrough_59 4 rfl ?_
  refine x_get C (xlo (i := 0) hb_b) (xhi (i := 0) hn_b rfl) (ov_at (i := 0) rfl) f_X6_12 rfl dX6_letThrough_60 ?_
  refine x_iload C dX6_letThrough_63 0 rfl ?_
  refine x_cV0 C (MF.slice (i := 1) (n := 2) (cs' := stT E b (mkS (rWr (vW v) (vFi v) z3) (rFi (vFi v)) (vLe v) (vRo v) (vNe v) (vKe v) (vSa v) (vGr v) (vHo v) (vHw v) (vSu v) (vDe v) (vGa v) (vLi v) (vSh v) (vSl v))) rfl rfl (Nat.le_of_ble_eq_true rfl) rfl (c_X5_write E N (b + 1) _ (vW v) (vFi v) (vLe v) z3 (xlo (i := 1) hb_b) (xhn (i := 1) (n := 2) hn_b rfl))) v_X6_74 hN (xlo (i := 1) hb_b) (xhi (i := 1) hn_b rfl) (ov_at (i := 1) rfl) rfl rfl rfl rfl rfl dX6_letThrough_65 ?_
  refine x_aload_n C dX6_letThrough_68 4 rfl ?_
  refine x_get C (xlo (i := 0) hb_b) (xhi (i := 0) hn_b rfl) (ov_at (i := 0) rfl) f_X6_21 rfl dX6_letThrough_69 ?_
  refine x_iload C dX6_letThrough_72 1 rfl ?_
  refine x_cV0 C (MF.slice (i := 3) (n := 2) (cs' := stT E b (mkS (rWr (vW v) (vFi v) z3) (rFi (vFi v)) (vLe v) (upd (vRo v) (oNx (vNe v)).toNatClampNeg (shp z2 (vSh v) (vLi v))) (oNx (vNe v) + 1) (imin ((vKe v) + 1) 12) (vSa v) (vGr v) (vHo v) (vHw v) (vSu v) (vDe v) (vGa v) (vLi v) (vSh v) (vSl v))) rfl rfl (Nat.le_of_ble_eq_true rfl) rfl (c_X4_add E N (b + 3) _ (vRo v) (vNe v) (vKe v) (shp z2 (vSh v) (vLi v)) (xlo (i := 3) hb_b) (xhn (i := 3) (n := 2) hn_b rfl))) v_X6_78 hN (xlo (i := 3) hb_b) (xhi (i := 3) hn_b rfl) (ov_at (i := 3) rfl) rfl rfl rfl rfl rfl dX6_letThrough_74 ?_
  refine x_aload_n C dX6_letThrough_77 4 rfl ?_
  refine x_get C (xlo (i := 0) hb_b) (xhi (i := 0) hn_b rfl) (ov_at (i := 0) rfl) f_X6_28 rfl dX6_letThrough_78 ?_
  refine x_iload C dX6_letThrough_81 1 rfl ?_
  refine x_iload C dX6_letThrough_83 1 rfl ?_
  refine x_iload_n C dX6_letThrough_85 3 rfl ?_
  refine x_t_icmp_eq C 93 94 1 0 dX6_letThrough_86 rfl dX6_letThrough_89 rfl dX6_letThrough_90 rfl dX6_letThrough_93 rfl rfl ?_
  refine x_iload C dX6_letThrough_94 0 rfl ?_
  refine x_iload_n C dX6_letThrough_96 2 rfl ?_
  refine x_t_icmp_eq C 104 105 1 0 dX6_letThrough_97 rfl dX6_letThrough_100 rfl dX6_letThrough_101 rfl dX6_letThrough_104 rfl rfl ?_
  refine x_cV0 C (MF.slice (i := 5) (n := 1) (cs' := stT E b (mkS (rWr (vW v) (vFi v) z3) (rFi (vFi v)) (vLe v) (upd (vRo v) (oNx (vNe v)).toNatClampNeg (shp z2 (vSh v) (vLi v))) (oNx (vNe v) + 1) (imin ((vKe v) + 1) 12) ((vSa v) + 1) (imax (vGr v) (iabs (shp z2 (vSh v) (vLi v)))) ((vHo v) + (if (if (shp z2 (vSh v) (vLi v)) = z2 then 0 else 1) = 0 then 0 else 1)) ((vHw v) + (if (if z3 = (x + (sShare v 4)) then 0 else 1) = 0 then 0 else 1)) ((vSu v) + (iabs (shp z2 (vSh v) (vLi v))).toInt64) (vDe v) (vGa v) (vLi v) (vSh v) (vSl v))) rfl rfl (Nat.le_of_ble_eq_true rfl) rfl (c_X2_add E N (b + 5) _ (vSa v) (vGr v) (vHo v) (vHw v) (vSu v) (shp z2 (vSh v) (vLi v)) (if (shp z2 (vSh v) (vLi v)) = z2 then 0 else 1) (if z3 = (x + (sShare v 4)) then 0 else 1) (xlo (i := 5) hb_b) (xhn (i := 5) (n := 1) hn_b rfl))) v_X6_81 hN (xlo (i := 5) hb_b) (xhi (i := 5) hn_b rfl) (ov_at (i := 5) rfl) rfl rfl rfl rfl rfl dX6_letThrough_105 ?_
  refine x_iload C dX6_letThrough_108 1 rfl ?_
  subst ez3 ez2 ez1
  exact x_iret C Z rfl rfl rfl (by simp only [bbI]; try rfl) dX6_letThrough_110

set_option maxRecDepth 100000 in
set_option maxHeartbeats 4000000 in
theorem c_X6_letSilenceThrough (E : XE) (N b : Nat) (G : GW) (v : SV) (k : Nat) (hk : k ≤ 1000) (hb_b : xB E ≤ b) (hn_b : b + 8 ≤ N) : MF E yX6_letSilenceThrough cX6_letSilenceThrough 4 (some .int) 4 88 0 0 [.ref b, .int (nI k)] N (ov b (stT E b v) G) (some (.int ((sSil v k).2))) (ov b (stT E b ((sSil v k).1)) G) := by
  refine MF.mk RX6 rfl (by decide +kernel) rfl (fun K C Z hin hN => ?_)
  show XW E K 4 N 0 0 _ 0 [(0, .ref b), (1, .int (nI k))] []
  refine x_iconst C 0 dX6_letSilenceThrough_0 rfl ?_
  refine x_istore_n (L' := [(2, .int 0), (0, .ref b), (1, .int (nI k))]) C dX6_letSilenceThrough_1 rfl rfl ?_
  refine x_iconst C 0 dX6_letSilenceThrough_2 rfl ?_
  refine x_istore_n (L' := [(3, .int 0), (2, .int 0), (0, .ref b), (1, .int (nI k))]) C dX6_letSilenceThrough_3 rfl rfl ?_
  refine x_perm (L' := [(0, .ref b), (1, .int (nI k)), (2, .int 0), (3, .int 0)]) [2, 3, 1, 0] rfl ?_
  have lp4 : ∀ (d i : Nat), i + d = k → XW E K 4 N 0 0 (ov b (stT E b ((sSil v i).1)) G) 4 [(0, .ref b), (1, .int (nI k)), (2, .int ((sSil v i).2)), (3, .int (nI i))] [] := by
    intro d
    induction d with
    | zero =>
      intro i hd
      have hi : i = k := by omega
      refine x_iload_n C dX6_letSilenceThrough_4 3 rfl ?_
      refine x_iload_n C dX6_letSilenceThrough_5 1 rfl ?_
      refine x_icmp_ge C 28 dX6_letSilenceThrough_6 rfl (fun _ => ?_) (fun c => absurd c (not_not_intro (nI_le (by omega) (by omega))))
      refine x_iload_n C dX6_letSilenceThrough_28 2 rfl ?_
      exact x_iret C Z rfl rfl (by rw [hi]) (by rw [hi]) dX6_letSilenceThrough_29
    | succ d ih =>
      intro i hd
      have hi : i < k := by omega
      refine x_iload_n C dX6_letSilenceThrough_4 3 rfl ?_
      refine x_iload_n C dX6_letSilenceThrough_5 1 rfl ?_
      refine x_icmp_ge C 28 dX6_letSilenceThrough_6 rfl (fun c => absurd c (nI_ge (by omega) (by omega))) (fun _ => ?_)
      refine x_iload_n C dX6_letSilenceThrough_9 2 rfl ?_
      refine x_aload_n C dX6_letSilenceThrough_10 0 rfl ?_
      refine x_iconst C 0 dX6_letSilenceThrough_11 rfl ?_
      refine x_cV1 C (c_X6_letThrough E N b _ ((sSil v i).1) 0 hb_b hn_b) v_X6_84 hN (xlo (i := 0) hb_b) (xhi (i := 0) hn_b rfl) (ov_at (i := 0) rfl) rfl rfl rfl rfl rfl dX6_letSilenceThrough_12 ?_
      refine x_mabs C m_270 rfl rfl rfl rfl dX6_letSilenceThrough_15 ?_
      refine x_mmax C m_271 rfl rfl rfl rfl dX6_letSilenceThrough_18 ?_
      refine x_topi (fun z1 ez1 => ?_)
      refine x_istore_n (L' := [(2, .int z1), (0, .ref b), (1, .int (nI k)), (3, .int (nI i))]) C dX6_letSilenceThrough_21 rfl rfl ?_
      refine x_iinc (L' := [(3, .int ((nI i) + 1)), (2, .int z1), (0, .ref b), (1, .int (nI k))]) C ((nI i) + 1) dX6_letSilenceThrough_22 3 rfl rfl rfl rfl ?_
      refine x_goto C 4 dX6_letSilenceThrough_25 rfl ?_
      refine x_perm (L' := [(0, .ref b), (1, .int (nI k)), (2, .int z1), (3, .int ((nI i) + 1))]) [2, 3, 1, 0] rfl ?_
      subst ez1
      refine x_to (L' := [(0, .ref b), (1, .int (nI k)), (2, .int ((sSil v (i + 1)).2)), (3, .int (nI (i + 1)))]) (G' := ov b (stT E b ((sSil v (i + 1)).1)) G) (by simp only [nI_succ]; try rfl) rfl rfl ?_
      exact ih (i + 1) (by omega)
  refine x_to (L' := [(0, .ref b), (1, .int (nI k)), (2, .int ((sSil v 0).2)), (3, .int (nI 0))]) (G' := ov b (stT E b ((sSil v 0).1)) G) rfl rfl rfl ?_
  exact lp4 _ 0 (Nat.add_sub_cancel' (by omega))

set_option maxRecDepth 100000 in
set_option maxHeartbeats 4000000 in
theorem c_X6_feedRing (E : XE) (N b : Nat) (G : GW) (v : SV) (x : Int32) (hb_b : xB E ≤ b) (hn_b : b + 8 ≤ N) : MF E yX6_feedRing cX6_feedRing 3 (some .int) 3 63 0 0 [.ref b, .int x] N (ov b (stT E b v) G) (some (.int (sWrd v x))) (ov b (stT E b (sFeed v x)) G) := by
  refine MF.mk RX6 rfl (by decide +kernel) rfl (fun K C Z hin hN => ?_)
  show XW E K 3 N 0 0 _ 0 [(0, .ref b), (1, .int x)] []
  refine x_iload_n C dX6_feedRing_0 1 rfl ?_
  refine x_aload_n C dX6_feedRing_1 0 rfl ?_
  refine x_iconst C 4 dX6_feedRing_2 rfl ?_
  refine x_cV1 C (c_X6_shareOf E N b _ v 4 hb_b hn_b) v_X6_64 hN (xlo (i := 0) hb_b) (xhi (i := 0) hn_b rfl) (ov_at (i := 0) rfl) rfl rfl rfl rfl rfl dX6_feedRing_3 ?_
  refine x_iadd C dX6_feedRing_6 ?_
  refine x_aload_n C dX6_feedRing_7 0 rfl ?_
  refine x_get C (xlo (i := 0) hb_b) (xhi (i := 0) hn_b rfl) (ov_at (i := 0) rfl) f_X6_67 rfl dX6_feedRing_8 ?_
  refine x_aload_n C dX6_feedRing_11 0 rfl ?_
  refine x_get C (xlo (i := 0) hb_b) (xhi (i := 0) hn_b rfl) (ov_at (i := 0) rfl) f_X6_39 rfl dX6_feedRing_12 ?_
  refine x_cSN1 C (c_X8_shaped E N _ (x + (sShare v 4)) (vSh v) (vLi v)) v_X6_70 hN rfl rfl rfl rfl dX6_feedRing_15 ?_
  refine x_topi (fun z1 ez1 => ?_)
  refine x_istore_n (L' := [(2, .int z1), (0, .ref b), (1, .int x)]) C dX6_feedRing_18 rfl rfl ?_
  refine x_aload_n C dX6_feedRing_19 1 rfl ?_
  refine x_get C (xlo (i := 0) hb_b) (xhi (i := 0) hn_b rfl) (ov_at (i := 0) rfl) f_X6_12 rfl dX6_feedRing_20 ?_
  refine x_iload_n C dX6_feedRing_23 0 rfl ?_
  refine x_cV0 C (MF.slice (i := 1) (n := 2) (cs' := stT E b (mkS (rWr (vW v) (vFi v) z1) (rFi (vFi v)) (vLe v) (vRo v) (vNe v) (vKe v) (vSa v) (vGr v) (vHo v) (vHw v) (vSu v) (vDe v) (vGa v) (vLi v) (vSh v) (vSl v))) rfl rfl (Nat.le_of_ble_eq_true rfl) rfl (c_X5_write E N (b + 1) _ (vW v) (vFi v) (vLe v) z1 (xlo (i := 1) hb_b) (xhn (i := 1) (n := 2) hn_b rfl))) v_X6_74 hN (xlo (i := 1) hb_b) (xhi (i := 1) hn_b rfl) (ov_at (i := 1) rfl) rfl rfl rfl rfl rfl dX6_feedRing_24 ?_
  refine x_iload_n C dX6_feedRing_27 0 rfl ?_
  subst ez1
  exact x_iret C Z rfl rfl rfl rfl dX6_feedRing_28

set_option maxRecDepth 100000 in
set_option maxHeartbeats 4000000 in
theorem c_X6_wordsOfProgram (E : XE) (N b : Nat) (G : GW) (v : SV) (hb_b : xB E ≤ b) (hn_b : b + 8 ≤ N) : MF E yX6_wordsOfProgram cX6_wordsOfProgram 1 (some .int) 0 0 0 0 [.ref b] N (ov b (stT E b v) G) (some (.int (64 - vLe v))) (ov b (stT E b v) G) := by
  refine MF.mk RX6 rfl (by decide +kernel) rfl (fun K C Z hin hN => ?_)
  show XW E K 1 N 0 0 _ 0 [(0, .ref b)] []
  refine x_bipush C 64 dX6_wordsOfProgram_0 rfl ?_
  refine x_aload_n C dX6_wordsOfProgram_2 0 rfl ?_
  refine x_get C (xlo (i := 0) hb_b) (xhi (i := 0) hn_b rfl) (ov_at (i := 0) rfl) f_X6_12 rfl dX6_wordsOfProgram_3 ?_
  refine x_get C (xlo (i := 1) hb_b) (xhi (i := 1) hn_b rfl) (ov_at (i := 1) rfl) f_X6_51 rfl dX6_wordsOfProgram_6 ?_
  refine x_isub C dX6_wordsOfProgram_9 ?_
  exact x_iret C Z rfl rfl rfl rfl dX6_wordsOfProgram_10

set_option maxRecDepth 100000 in
set_option maxHeartbeats 4000000 in
theorem c_X6_takeWords (E : XE) (N b : Nat) (G : GW) (v : SV) (x : Int32) (hb_b : xB E ≤ b) (hn_b : b + 8 ≤ N) : MF E yX6_takeWords cX6_takeWords 2 none 2 42 0 0 [.ref b, .int x] N (ov b (stT E b v) G) none (ov b (stT E b (sTak v x)) G) := by
  refine MF.mk RX6 rfl (by decide +kernel) rfl (fun K C Z hin hN => ?_)
  show XW E K 2 N 0 0 _ 0 [(0, .ref b), (1, .int x)] []
  refine x_aload_n C dX6_takeWords_0 0 rfl ?_
  refine x_get C (xlo (i := 0) hb_b) (xhi (i := 0) hn_b rfl) (ov_at (i := 0) rfl) f_X6_12 rfl dX6_takeWords_1 ?_
  refine x_iload_n C dX6_takeWords_4 1 rfl ?_
  refine x_cV0 C (MF.slice (i := 1) (n := 2) (cs' := stT E b (mkS (vW v) (vFi v) (imax ((vLe v) - x) 0) (vRo v) (vNe v) (vKe v) (vSa v) (vGr v) (vHo v) (vHw v) (vSu v) (vDe v) (vGa v) (vLi v) (vSh v) (vSl v))) rfl rfl (Nat.le_of_ble_eq_true rfl) rfl (c_X5_shorten E N (b + 1) _ (vW v) (vFi v) (vLe v) x (xlo (i := 1) hb_b) (xhn (i := 1) (n := 2) hn_b rfl))) v_X6_95 hN (xlo (i := 1) hb_b) (xhi (i := 1) hn_b rfl) (ov_at (i := 1) rfl) rfl rfl rfl rfl rfl dX6_takeWords_5 ?_
  refine x_aload_n C dX6_takeWords_8 0 rfl ?_
  refine x_dup C dX6_takeWords_9 rfl ?_
  refine x_get C (xlo (i := 0) hb_b) (xhi (i := 0) hn_b rfl) (ov_at (i := 0) rfl) f_X6_98 rfl dX6_takeWords_10 ?_
  refine x_iload_n C dX6_takeWords_13 1 rfl ?_
  refine x_iadd C dX6_takeWords_14 ?_
  refine x_put (G' := ov b (stT E b (mkS (vW v) (vFi v) (imax ((vLe v) - x) 0) (vRo v) (vNe v) (vKe v) (vSa v) (vGr v) (vHo v) (vHw v) (vSu v) (vDe v) (vGa v) (vLi v) (vSh v) ((vSl v) + x))) G) C (xlo (i := 0) hb_b) (xhi (i := 0) hn_b rfl) (ov_at (i := 0) rfl) f_X6_98 xt_X6 rfl rfl rfl rfl (ov_set (i := 0) rfl rfl) dX6_takeWords_15 ?_
  exact x_vret C Z rfl rfl rfl dX6_takeWords_18

set_option maxRecDepth 100000 in
set_option maxHeartbeats 4000000 in
theorem c_X6_putSetting (E : XE) (N b : Nat) (G : GW) (v : SV) (w x : Int32) (hb_b : xB E ≤ b) (hn_b : b + 8 ≤ N) : MF E yX6_putSetting cX6_putSetting 4 (some .int) 0 0 0 0 [.ref b, .int w, .int x] N (ov b (stT E b v) G) (some (.int (if w = 0 then vLi v else vSh v))) (ov b (stT E b (sSet v w x)) G) := by
  refine MF.mk RX6 rfl (by decide +kernel) rfl (fun K C Z hin hN => ?_)
  show XW E K 4 N 0 0 _ 0 [(0, .ref b), (1, .int w), (2, .int x)] []
  refine x_iload_n C dX6_putSetting_0 1 rfl ?_
  refine x_if_ne C 11 dX6_putSetting_1 rfl (fun c1 => ?_) (fun c1 => ?_)
  · refine x_aload_n C dX6_putSetting_11 0 rfl ?_
    refine x_get C (xlo (i := 0) hb_b) (xhi (i := 0) hn_b rfl) (ov_at (i := 0) rfl) f_X6_67 rfl dX6_putSetting_12 ?_
    refine x_istore_n (L' := [(3, .int (vSh v)), (0, .ref b), (1, .int w), (2, .int x)]) C dX6_putSetting_15 rfl rfl ?_
    refine x_iload_n C dX6_putSetting_16 2 rfl ?_
    refine x_if_ne C 28 dX6_putSetting_17 rfl (fun c17 => ?_) (fun c17 => ?_)
    · refine x_aload_n C dX6_putSetting_28 1 rfl ?_
      refine x_iload_n C dX6_putSetting_29 3 rfl ?_
      refine x_put (G' := ov b (stT E b (mkS (vW v) (vFi v) (vLe v) (vRo v) (vNe v) (vKe v) (vSa v) (vGr v) (vHo v) (vHw v) (vSu v) (vDe v) (vGa v) (vLi v) x (vSl v))) G) C (xlo (i := 0) hb_b) (xhi (i := 0) hn_b rfl) (ov_at (i := 0) rfl) f_X6_67 xt_X6 rfl rfl rfl rfl (ov_set (i := 0) rfl rfl) dX6_putSetting_30 ?_
      refine x_iload_n C dX6_putSetting_33 0 rfl ?_
      exact x_iret C Z rfl rfl (by first | (simp [sSet, c1, c17]; done) | exact absurd c17 c1 | exact absurd c1 c17) (by first | (simp [sSet, c1, c17]; done) | exact absurd c17 c1 | exact absurd c1 c17) dX6_putSetting_34
    · refine x_aload_n C dX6_putSetting_20 1 rfl ?_
      refine x_iload_n C dX6_putSetting_21 3 rfl ?_
      refine x_put (G' := ov b (stT E b (mkS (vW v) (vFi v) (vLe v) (vRo v) (vNe v) (vKe v) (vSa v) (vGr v) (vHo v) (vHw v) (vSu v) (vDe v) (vGa v) x (vSh v) (vSl v))) G) C (xlo (i := 0) hb_b) (xhi (i := 0) hn_b rfl) (ov_at (i := 0) rfl) f_X6_39 xt_X6 rfl rfl rfl rfl (ov_set (i := 0) rfl rfl) dX6_putSetting_22 ?_
      refine x_goto C 33 dX6_putSetting_25 rfl ?_
      refine x_iload_n C dX6_putSetting_33 0 rfl ?_
      exact x_iret C Z rfl rfl (by first | (simp [sSet, c1, c17]; done) | exact absurd c17 c1 | exact absurd c1 c17) (by first | (simp [sSet, c1, c17]; done) | exact absurd c17 c1 | exact absurd c1 c17) dX6_putSetting_34
  · refine x_aload_n C dX6_putSetting_4 0 rfl ?_
    refine x_get C (xlo (i := 0) hb_b) (xhi (i := 0) hn_b rfl) (ov_at (i := 0) rfl) f_X6_39 rfl dX6_putSetting_5 ?_
    refine x_goto C 15 dX6_putSetting_8 rfl ?_
    refine x_istore_n (L' := [(3, .int (vLi v)), (0, .ref b), (1, .int w), (2, .int x)]) C dX6_putSetting_15 rfl rfl ?_
    refine x_iload_n C dX6_putSetting_16 2 rfl ?_
    refine x_if_ne C 28 dX6_putSetting_17 rfl (fun c17 => ?_) (fun c17 => ?_)
    · refine x_aload_n C dX6_putSetting_28 1 rfl ?_
      refine x_iload_n C dX6_putSetting_29 3 rfl ?_
      refine x_put (G' := ov b (stT E b (mkS (vW v) (vFi v) (vLe v) (vRo v) (vNe v) (vKe v) (vSa v) (vGr v) (vHo v) (vHw v) (vSu v) (vDe v) (vGa v) (vLi v) x (vSl v))) G) C (xlo (i := 0) hb_b) (xhi (i := 0) hn_b rfl) (ov_at (i := 0) rfl) f_X6_67 xt_X6 rfl rfl rfl rfl (ov_set (i := 0) rfl rfl) dX6_putSetting_30 ?_
      refine x_iload_n C dX6_putSetting_33 0 rfl ?_
      exact x_iret C Z rfl rfl (by first | (simp [sSet, c1, c17]; done) | exact absurd c17 c1 | exact absurd c1 c17) (by first | (simp [sSet, c1, c17]; done) | exact absurd c17 c1 | exact absurd c1 c17) dX6_putSetting_34
    · refine x_aload_n C dX6_putSetting_20 1 rfl ?_
      refine x_iload_n C dX6_putSetting_21 3 rfl ?_
      refine x_put (G' := ov b (stT E b (mkS (vW v) (vFi v) (vLe v) (vRo v) (vNe v) (vKe v) (vSa v) (vGr v) (vHo v) (vHw v) (vSu v) (vDe v) (vGa v) x (vSh v) (vSl v))) G) C (xlo (i := 0) hb_b) (xhi (i := 0) hn_b rfl) (ov_at (i := 0) rfl) f_X6_39 xt_X6 rfl rfl rfl rfl (ov_set (i := 0) rfl rfl) dX6_putSetting_22 ?_
      refine x_goto C 33 dX6_putSetting_25 rfl ?_
      refine x_iload_n C dX6_putSetting_33 0 rfl ?_
      exact x_iret C Z rfl rfl (by first | (simp [sSet, c1, c17]; done) | exact absurd c17 c1 | exact absurd c1 c17) (by first | (simp [sSet, c1, c17]; done) | exact absurd c17 c1 | exact absurd c1 c17) dX6_putSetting_34

set_option maxRecDepth 100000 in
set_option maxHeartbeats 4000000 in
theorem c_J7_fill_53178 (E : XE) (N a : Nat) (G : GW) (w : Nat → Int32) (x : Int32) (hb_a : xB E ≤ a) (hn_a : a + 1 ≤ N) : MF E yJ7_fill_53178 cJ7_fill_53178 4 none 0 0 0 0 [.ref a, .int x] N (ov a (arrC E a w) G) none (ov a (arrC E a (fillI w x 64)) G) := by
  refine MF.mk RJ7 rfl (by decide +kernel) rfl (fun K C Z hin hN => ?_)
  show XW E K 4 N 0 0 _ 0 [(0, .ref a), (1, .int x)] []
  refine x_iconst C 0 dJ7_fill_53178_0 rfl ?_
  refine x_istore_n (L' := [(2, .int 0), (0, .ref a), (1, .int x)]) C dJ7_fill_53178_1 rfl rfl ?_
  refine x_aload_n C dJ7_fill_53178_2 1 rfl ?_
  refine x_alen C 64 (xlo (i := 0) hb_a) (xhi (i := 0) hn_a rfl) (ov_at (i := 0) rfl) rfl dJ7_fill_53178_3 ?_
  refine x_istore_n (L' := [(3, .int 64), (2, .int 0), (0, .ref a), (1, .int x)]) C dJ7_fill_53178_4 rfl rfl ?_
  refine x_perm (L' := [(0, .ref a), (1, .int x), (2, .int 0), (3, .int 64)]) [2, 3, 1, 0] rfl ?_
  have lp5 : ∀ (d i : Nat), i + d = 64 → XW E K 4 N 0 0 (ov a (arrC E a (fillI w x i)) G) 5 [(0, .ref a), (1, .int x), (2, .int (nI i)), (3, .int 64)] [] := by
    intro d
    induction d with
    | zero =>
      intro i hd
      have hi : i = 64 := by omega
      refine x_iload_n C dJ7_fill_53178_5 2 rfl ?_
      refine x_iload_n C dJ7_fill_53178_6 3 rfl ?_
      refine x_icmp_ge C 20 dJ7_fill_53178_7 rfl (fun _ => ?_) (fun c => absurd c (not_not_intro (nI_le (a := 64) (by omega) (by omega))))
      exact x_vret C Z rfl rfl (by rw [hi]) dJ7_fill_53178_20
    | succ d ih =>
      intro i hd
      have hi : i < 64 := by omega
      refine x_iload_n C dJ7_fill_53178_5 2 rfl ?_
      refine x_iload_n C dJ7_fill_53178_6 3 rfl ?_
      refine x_icmp_ge C 20 dJ7_fill_53178_7 rfl (fun c => absurd c (nI_ge (b := 64) (by omega) (by omega))) (fun _ => ?_)
      refine x_aload_n C dJ7_fill_53178_10 0 rfl ?_
      refine x_iload_n C dJ7_fill_53178_11 2 rfl ?_
      refine x_iload_n C dJ7_fill_53178_12 1 rfl ?_
      refine x_iast (G' := ov a (arrC E a (upd (fillI w x i) i x)) G) C i (xlo (i := 0) hb_a) (xhi (i := 0) hn_a rfl) (ov_at (i := 0) rfl) (vp_in_nI hi (by decide)) (nI_clamp (by omega)) (ov_set (i := 0) rfl rfl) dJ7_fill_53178_13 ?_
      refine x_iinc (L' := [(2, .int ((nI i) + 1)), (0, .ref a), (1, .int x), (3, .int 64)]) C ((nI i) + 1) dJ7_fill_53178_14 2 rfl rfl rfl rfl ?_
      refine x_goto C 5 dJ7_fill_53178_17 rfl ?_
      refine x_perm (L' := [(0, .ref a), (1, .int x), (2, .int ((nI i) + 1)), (3, .int 64)]) [1, 2, 0, 3] rfl ?_
      refine x_to (L' := [(0, .ref a), (1, .int x), (2, .int (nI (i + 1))), (3, .int 64)]) (G' := ov a (arrC E a (fillI w x (i + 1))) G) (by simp only [nI_succ]; try rfl) rfl rfl ?_
      exact ih (i + 1) (by omega)
  refine x_to (L' := [(0, .ref a), (1, .int x), (2, .int (nI 0)), (3, .int 64)]) (G' := ov a (arrC E a (fillI w x 0)) G) rfl rfl rfl ?_
  exact lp5 _ 0 (Nat.add_sub_cancel' (by omega))

set_option maxRecDepth 100000 in
set_option maxHeartbeats 4000000 in
theorem c_X5_fillWithZeros (E : XE) (N b : Nat) (G : GW) (w : Nat → Int32) (fi le : Int32) (hb_b : xB E ≤ b) (hn_b : b + 2 ≤ N) : MF E yX5_fillWithZeros cX5_fillWithZeros 1 none 1 23 0 0 [.ref b] N (ov b (ringC E b w fi le) G) none (ov b (ringC E b (fillI w 0 64) fi le) G) := by
  refine MF.mk RX5 rfl (by decide +kernel) rfl (fun K C Z hin hN => ?_)
  show XW E K 1 N 0 0 _ 0 [(0, .ref b)] []
  refine x_aload_n C dX5_fillWithZeros_0 0 rfl ?_
  refine x_get C (xlo (i := 0) hb_b) (xhi (i := 0) hn_b rfl) (ov_at (i := 0) rfl) f_X5_9 rfl dX5_fillWithZeros_1 ?_
  refine x_iconst C 0 dX5_fillWithZeros_4 rfl ?_
  refine x_cS0 C (MF.slice (i := 1) (n := 1) (cs' := ringC E b (fillI w 0 64) fi le) rfl rfl (Nat.le_of_ble_eq_true rfl) rfl (c_J7_fill_53178 E N (b + 1) _ w 0 (xlo (i := 1) hb_b) (xhn (i := 1) (n := 1) hn_b rfl))) v_X5_31 hN rfl rfl rfl rfl dX5_fillWithZeros_5 ?_
  exact x_vret C Z rfl rfl rfl dX5_fillWithZeros_8

set_option maxRecDepth 100000 in
set_option maxHeartbeats 4000000 in
theorem c_X5_takeOver (E : XE) (N b o : Nat) (G : GW) (w : Nat → Int32) (fi le : Int32) (w2 : Nat → Int32) (fi2 le2 : Int32) (hb_b : xB E ≤ b) (hn_b : b + 2 ≤ N) (hb_o : xB E ≤ o) (hn_o : o + 2 ≤ N) (hd_b_o : b + 2 ≤ o ∨ o + 2 ≤ b) : MF E yX5_takeOver cX5_takeOver 2 none 1 60 0 0 [.ref b, .ref o] N (ov b (ringC E b w fi le) (ov o (ringC E o w2 fi2 le2) G)) none (ov b (ringC E b (va_cpy w2 w 0 0 64) fi2 le2) (ov o (ringC E o w2 fi2 le2) G)) := by
  refine MF.mk RX5 rfl (by decide +kernel) rfl (fun K C Z hin hN => ?_)
  show XW E K 2 N 0 0 _ 0 [(0, .ref b), (1, .ref o)] []
  refine x_aload_n C dX5_takeOver_0 1 rfl ?_
  refine x_get C (xlo (i := 0) hb_o) (xhi (i := 0) hn_o rfl) ((ov_out (n := 2) rfl (by have hd := hd_b_o; omega)).trans (ov_at (i := 0) rfl)) f_X5_9 rfl dX5_takeOver_1 ?_
  refine x_iconst C 0 dX5_takeOver_4 rfl ?_
  refine x_aload_n C dX5_takeOver_5 0 rfl ?_
  refine x_get C (xlo (i := 0) hb_b) (xhi (i := 0) hn_b rfl) (ov_at (i := 0) rfl) f_X5_9 rfl dX5_takeOver_6 ?_
  refine x_iconst C 0 dX5_takeOver_9 rfl ?_
  refine x_bipush C 64 dX5_takeOver_10 rfl ?_
  refine x_copyi (G' := ov b (ringC E b (va_cpy w2 w 0 0 64) fi le) (ov o (ringC E o w2 fi2 le2) G)) C 0 0 64 m_199 (xlo (i := 1) hb_o) (xhi (i := 1) hn_o rfl) ((ov_out (n := 2) rfl (by have hd := hd_b_o; omega)).trans (ov_at (i := 1) rfl)) (xlo (i := 1) hb_b) (xhi (i := 1) hn_b rfl) (ov_at (i := 1) rfl) (by decide) (by decide) (by decide) rfl rfl rfl (by decide) (by decide) rfl (by decide +kernel) (ov_set (i := 1) rfl rfl) dX5_takeOver_12 ?_
  refine x_aload_n C dX5_takeOver_15 0 rfl ?_
  refine x_aload_n C dX5_takeOver_16 1 rfl ?_
  refine x_get C (xlo (i := 0) hb_o) (xhi (i := 0) hn_o rfl) ((ov_out (n := 2) rfl (by have hd := hd_b_o; omega)).trans (ov_at (i := 0) rfl)) f_X5_19 rfl dX5_takeOver_17 ?_
  refine x_put (G' := ov b (ringC E b (va_cpy w2 w 0 0 64) fi2 le) (ov o (ringC E o w2 fi2 le2) G)) C (xlo (i := 0) hb_b) (xhi (i := 0) hn_b rfl) (ov_at (i := 0) rfl) f_X5_19 xt_X5 rfl rfl rfl rfl (ov_set (i := 0) rfl rfl) dX5_takeOver_20 ?_
  refine x_aload_n C dX5_takeOver_23 0 rfl ?_
  refine x_aload_n C dX5_takeOver_24 1 rfl ?_
  refine x_get C (xlo (i := 0) hb_o) (xhi (i := 0) hn_o rfl) ((ov_out (n := 2) rfl (by have hd := hd_b_o; omega)).trans (ov_at (i := 0) rfl)) f_X5_15 rfl dX5_takeOver_25 ?_
  refine x_put (G' := ov b (ringC E b (va_cpy w2 w 0 0 64) fi2 le2) (ov o (ringC E o w2 fi2 le2) G)) C (xlo (i := 0) hb_b) (xhi (i := 0) hn_b rfl) (ov_at (i := 0) rfl) f_X5_15 xt_X5 rfl rfl rfl rfl (ov_set (i := 0) rfl rfl) dX5_takeOver_28 ?_
  exact x_vret C Z rfl rfl rfl dX5_takeOver_31

set_option maxRecDepth 100000 in
set_option maxHeartbeats 4000000 in
theorem c_X4_takeOver (E : XE) (N b o : Nat) (G : GW) (ro : Nat → Int32) (ne ke : Int32) (ro2 : Nat → Int32) (ne2 ke2 : Int32) (hb_b : xB E ≤ b) (hn_b : b + 2 ≤ N) (hb_o : xB E ≤ o) (hn_o : o + 2 ≤ N) (hd_b_o : b + 2 ≤ o ∨ o + 2 ≤ b) : MF E yX4_takeOver cX4_takeOver 2 none 1 60 0 0 [.ref b, .ref o] N (ov b (outC E b ro ne ke) (ov o (outC E o ro2 ne2 ke2) G)) none (ov b (outC E b (va_cpy ro2 ro 0 0 12) ne2 ke2) (ov o (outC E o ro2 ne2 ke2) G)) := by
  refine MF.mk RX4 rfl (by decide +kernel) rfl (fun K C Z hin hN => ?_)
  show XW E K 2 N 0 0 _ 0 [(0, .ref b), (1, .ref o)] []
  refine x_aload_n C dX4_takeOver_0 1 rfl ?_
  refine x_get C (xlo (i := 0) hb_o) (xhi (i := 0) hn_o rfl) ((ov_out (n := 2) rfl (by have hd := hd_b_o; omega)).trans (ov_at (i := 0) rfl)) f_X4_9 rfl dX4_takeOver_1 ?_
  refine x_iconst C 0 dX4_takeOver_4 rfl ?_
  refine x_aload_n C dX4_takeOver_5 0 rfl ?_
  refine x_get C (xlo (i := 0) hb_b) (xhi (i := 0) hn_b rfl) (ov_at (i := 0) rfl) f_X4_9 rfl dX4_takeOver_6 ?_
  refine x_iconst C 0 dX4_takeOver_9 rfl ?_
  refine x_bipush C 12 dX4_takeOver_10 rfl ?_
  refine x_copyi (G' := ov b (outC E b (va_cpy ro2 ro 0 0 12) ne ke) (ov o (outC E o ro2 ne2 ke2) G)) C 0 0 12 m_206 (xlo (i := 1) hb_o) (xhi (i := 1) hn_o rfl) ((ov_out (n := 2) rfl (by have hd := hd_b_o; omega)).trans (ov_at (i := 1) rfl)) (xlo (i := 1) hb_b) (xhi (i := 1) hn_b rfl) (ov_at (i := 1) rfl) (by decide) (by decide) (by decide) rfl rfl rfl (by decide) (by decide) rfl (by decide +kernel) (ov_set (i := 1) rfl rfl) dX4_takeOver_12 ?_
  refine x_aload_n C dX4_takeOver_15 0 rfl ?_
  refine x_aload_n C dX4_takeOver_16 1 rfl ?_
  refine x_get C (xlo (i := 0) hb_o) (xhi (i := 0) hn_o rfl) ((ov_out (n := 2) rfl (by have hd := hd_b_o; omega)).trans (ov_at (i := 0) rfl)) f_X4_15 rfl dX4_takeOver_17 ?_
  refine x_put (G' := ov b (outC E b (va_cpy ro2 ro 0 0 12) ne2 ke) (ov o (outC E o ro2 ne2 ke2) G)) C (xlo (i := 0) hb_b) (xhi (i := 0) hn_b rfl) (ov_at (i := 0) rfl) f_X4_15 xt_X4 rfl rfl rfl rfl (ov_set (i := 0) rfl rfl) dX4_takeOver_20 ?_
  refine x_aload_n C dX4_takeOver_23 0 rfl ?_
  refine x_aload_n C dX4_takeOver_24 1 rfl ?_
  refine x_get C (xlo (i := 0) hb_o) (xhi (i := 0) hn_o rfl) ((ov_out (n := 2) rfl (by have hd := hd_b_o; omega)).trans (ov_at (i := 0) rfl)) f_X4_19 rfl dX4_takeOver_25 ?_
  refine x_put (G' := ov b (outC E b (va_cpy ro2 ro 0 0 12) ne2 ke2) (ov o (outC E o ro2 ne2 ke2) G)) C (xlo (i := 0) hb_b) (xhi (i := 0) hn_b rfl) (ov_at (i := 0) rfl) f_X4_19 xt_X4 rfl rfl rfl rfl (ov_set (i := 0) rfl rfl) dX4_takeOver_28 ?_
  exact x_vret C Z rfl rfl rfl dX4_takeOver_31

set_option maxRecDepth 100000 in
set_option maxHeartbeats 4000000 in
theorem c_X2_takeOver (E : XE) (N b o : Nat) (G : GW) (sa gr ho hw : Int32) (su : Int64) (sa2 gr2 ho2 hw2 : Int32) (su2 : Int64) (hb_b : xB E ≤ b) (hn_b : b + 1 ≤ N) (hb_o : xB E ≤ o) (hn_o : o + 1 ≤ N) (hd_b_o : b + 1 ≤ o ∨ o + 1 ≤ b) : MF E yX2_takeOver cX2_takeOver 2 none 0 0 0 0 [.ref b, .ref o] N (ov b (metC E b sa gr ho hw su) (ov o (metC E o sa2 gr2 ho2 hw2 su2) G)) none (ov b (metC E b sa2 gr2 ho2 hw2 su2) (ov o (metC E o sa2 gr2 ho2 hw2 su2) G)) := by
  refine MF.mk RX2 rfl (by decide +kernel) rfl (fun K C Z hin hN => ?_)
  show XW E K 2 N 0 0 _ 0 [(0, .ref b), (1, .ref o)] []
  refine x_aload_n C dX2_takeOver_0 0 rfl ?_
  refine x_aload_n C dX2_takeOver_1 1 rfl ?_
  refine x_get C (xlo (i := 0) hb_o) (xhi (i := 0) hn_o rfl) ((ov_out (n := 1) rfl (by have hd := hd_b_o; omega)).trans (ov_at (i := 0) rfl)) f_X2_13 rfl dX2_takeOver_2 ?_
  refine x_put (G' := ov b (metC E b sa2 gr ho hw su) (ov o (metC E o sa2 gr2 ho2 hw2 su2) G)) C (xlo (i := 0) hb_b) (xhi (i := 0) hn_b rfl) (ov_at (i := 0) rfl) f_X2_13 xt_X2 rfl rfl rfl rfl (ov_set (i := 0) rfl rfl) dX2_takeOver_5 ?_
  refine x_aload_n C dX2_takeOver_8 0 rfl ?_
  refine x_aload_n C dX2_takeOver_9 1 rfl ?_
  refine x_get C (xlo (i := 0) hb_o) (xhi (i := 0) hn_o rfl) ((ov_out (n := 1) rfl (by have hd := hd_b_o; omega)).trans (ov_at (i := 0) rfl)) f_X2_23 rfl dX2_takeOver_10 ?_
  refine x_put (G' := ov b (metC E b sa2 gr2 ho hw su) (ov o (metC E o sa2 gr2 ho2 hw2 su2) G)) C (xlo (i := 0) hb_b) (xhi (i := 0) hn_b rfl) (ov_at (i := 0) rfl) f_X2_23 xt_X2 rfl rfl rfl rfl (ov_set (i := 0) rfl rfl) dX2_takeOver_13 ?_
  refine x_aload_n C dX2_takeOver_16 0 rfl ?_
  refine x_aload_n C dX2_takeOver_17 1 rfl ?_
  refine x_get C (xlo (i := 0) hb_o) (xhi (i := 0) hn_o rfl) ((ov_out (n := 1) rfl (by have hd := hd_b_o; omega)).trans (ov_at (i := 0) rfl)) f_X2_30 rfl dX2_takeOver_18 ?_
  refine x_put (G' := ov b (metC E b sa2 gr2 ho2 hw su) (ov o (metC E o sa2 gr2 ho2 hw2 su2) G)) C (xlo (i := 0) hb_b) (xhi (i := 0) hn_b rfl) (ov_at (i := 0) rfl) f_X2_30 xt_X2 rfl rfl rfl rfl (ov_set (i := 0) rfl rfl) dX2_takeOver_21 ?_
  refine x_aload_n C dX2_takeOver_24 0 rfl ?_
  refine x_aload_n C dX2_takeOver_25 1 rfl ?_
  refine x_get C (xlo (i := 0) hb_o) (xhi (i := 0) hn_o rfl) ((ov_out (n := 1) rfl (by have hd := hd_b_o; omega)).trans (ov_at (i := 0) rfl)) f_X2_33 rfl dX2_takeOver_26 ?_
  refine x_put (G' := ov b (metC E b sa2 gr2 ho2 hw2 su) (ov o (metC E o sa2 gr2 ho2 hw2 su2) G)) C (xlo (i := 0) hb_b) (xhi (i := 0) hn_b rfl) (ov_at (i := 0) rfl) f_X2_33 xt_X2 rfl rfl rfl rfl (ov_set (i := 0) rfl rfl) dX2_takeOver_29 ?_
  refine x_aload_n C dX2_takeOver_32 0 rfl ?_
  refine x_aload_n C dX2_takeOver_33 1 rfl ?_
  refine x_get C (xlo (i := 0) hb_o) (xhi (i := 0) hn_o rfl) ((ov_out (n := 1) rfl (by have hd := hd_b_o; omega)).trans (ov_at (i := 0) rfl)) f_X2_19 rfl dX2_takeOver_34 ?_
  refine x_put (G' := ov b (metC E b sa2 gr2 ho2 hw2 su2) (ov o (metC E o sa2 gr2 ho2 hw2 su2) G)) C (xlo (i := 0) hb_b) (xhi (i := 0) hn_b rfl) (ov_at (i := 0) rfl) f_X2_19 xt_X2 rfl rfl rfl rfl (ov_set (i := 0) rfl rfl) dX2_takeOver_37 ?_
  exact x_vret C Z rfl rfl rfl dX2_takeOver_40

set_option maxRecDepth 100000 in
set_option maxHeartbeats 4000000 in
theorem c_X6_takeOver (E : XE) (N b o : Nat) (G : GW) (v u : SV) (hb_b : xB E ≤ b) (hn_b : b + 8 ≤ N) (hb_o : xB E ≤ o) (hn_o : o + 8 ≤ N) (hd_b_o : b + 8 ≤ o ∨ o + 8 ≤ b) : MF E yX6_takeOver cX6_takeOver 2 none 2 81 0 0 [.ref b, .ref o] N (ov b (stT E b v) (ov o (stT E o u) G)) none (ov b (stT E b (sCpy v u)) (ov o (stT E o u) G)) := by
  refine MF.mk RX6 rfl (by decide +kernel) rfl (fun K C Z hin hN => ?_)
  show XW E K 2 N 0 0 _ 0 [(0, .ref b), (1, .ref o)] []
  refine x_aload_n C dX6_takeOver_0 0 rfl ?_
  refine x_get C (xlo (i := 0) hb_b) (xhi (i := 0) hn_b rfl) (ov_at (i := 0) rfl) f_X6_12 rfl dX6_takeOver_1 ?_
  refine x_aload_n C dX6_takeOver_4 1 rfl ?_
  refine x_get C (xlo (i := 0) hb_o) (xhi (i := 0) hn_o rfl) ((ov_out (n := 8) rfl (by have hd := hd_b_o; omega)).trans (ov_at (i := 0) rfl)) f_X6_12 rfl dX6_takeOver_5 ?_
  refine x_cV0 C (MF.slice2 (p := 8) (i := 1) (j := 1) (n := 2) (k := 2) (cs' := stT E b (mkS (va_cpy (vW u) (vW v) 0 0 64) (vFi u) (vLe u) (vRo v) (vNe v) (vKe v) (vSa v) (vGr v) (vHo v) (vHw v) (vSu v) (vDe v) (vGa v) (vLi v) (vSh v) (vSl v))) rfl rfl rfl rfl rfl (Nat.le_of_ble_eq_true rfl) rfl (by have hd := hd_b_o; omega) (c_X5_takeOver E N (b + 1) (o + 1) _ (vW v) (vFi v) (vLe v) (vW u) (vFi u) (vLe u) (xlo (i := 1) hb_b) (xhn (i := 1) (n := 2) hn_b rfl) (xlo (i := 1) hb_o) (xhn (i := 1) (n := 2) hn_o rfl) (by have hd := hd_b_o; omega))) v_X6_101 hN (xlo (i := 1) hb_b) (xhi (i := 1) hn_b rfl) (ov_at (i := 1) rfl) rfl rfl rfl rfl rfl dX6_takeOver_8 ?_
  refine x_aload_n C dX6_takeOver_11 0 rfl ?_
  refine x_get C (xlo (i := 0) hb_b) (xhi (i := 0) hn_b rfl) (ov_at (i := 0) rfl) f_X6_21 rfl dX6_takeOver_12 ?_
  refine x_aload_n C dX6_takeOver_15 1 rfl ?_
  refine x_get C (xlo (i := 0) hb_o) (xhi (i := 0) hn_o rfl) ((ov_out (n := 8) rfl (by have hd := hd_b_o; omega)).trans (ov_at (i := 0) rfl)) f_X6_21 rfl dX6_takeOver_16 ?_
  refine x_cV0 C (MF.slice2 (p := 8) (i := 3) (j := 3) (n := 2) (k := 2) (cs' := stT E b (mkS (va_cpy (vW u) (vW v) 0 0 64) (vFi u) (vLe u) (va_cpy (vRo u) (vRo v) 0 0 12) (vNe u) (vKe u) (vSa v) (vGr v) (vHo v) (vHw v) (vSu v) (vDe v) (vGa v) (vLi v) (vSh v) (vSl v))) rfl rfl rfl rfl rfl (Nat.le_of_ble_eq_true rfl) rfl (by have hd := hd_b_o; omega) (c_X4_takeOver E N (b + 3) (o + 3) _ (vRo v) (vNe v) (vKe v) (vRo u) (vNe u) (vKe u) (xlo (i := 3) hb_b) (xhn (i := 3) (n := 2) hn_b rfl) (xlo (i := 3) hb_o) (xhn (i := 3) (n := 2) hn_o rfl) (by have hd := hd_b_o; omega))) v_X6_105 hN (xlo (i := 3) hb_b) (xhi (i := 3) hn_b rfl) (ov_at (i := 3) rfl) rfl rfl rfl rfl rfl dX6_takeOver_19 ?_
  refine x_aload_n C dX6_takeOver_22 0 rfl ?_
  refine x_get C (xlo (i := 0) hb_b) (xhi (i := 0) hn_b rfl) (ov_at (i := 0) rfl) f_X6_28 rfl dX6_takeOver_23 ?_
  refine x_aload_n C dX6_takeOver_26 1 rfl ?_
  refine x_get C (xlo (i := 0) hb_o) (xhi (i := 0) hn_o rfl) ((ov_out (n := 8) rfl (by have hd := hd_b_o; omega)).trans (ov_at (i := 0) rfl)) f_X6_28 rfl dX6_takeOver_27 ?_
  refine x_cV0 C (MF.slice2 (p := 8) (i := 5) (j := 5) (n := 1) (k := 1) (cs' := stT E b (mkS (va_cpy (vW u) (vW v) 0 0 64) (vFi u) (vLe u) (va_cpy (vRo u) (vRo v) 0 0 12) (vNe u) (vKe u) (vSa u) (vGr u) (vHo u) (vHw u) (vSu u) (vDe v) (vGa v) (vLi v) (vSh v) (vSl v))) rfl rfl rfl rfl rfl (Nat.le_of_ble_eq_true rfl) rfl (by have hd := hd_b_o; omega) (c_X2_takeOver E N (b + 5) (o + 5) _ (vSa v) (vGr v) (vHo v) (vHw v) (vSu v) (vSa u) (vGr u) (vHo u) (vHw u) (vSu u) (xlo (i := 5) hb_b) (xhn (i := 5) (n := 1) hn_b rfl) (xlo (i := 5) hb_o) (xhn (i := 5) (n := 1) hn_o rfl) (by have hd := hd_b_o; omega))) v_X6_108 hN (xlo (i := 5) hb_b) (xhi (i := 5) hn_b rfl) (ov_at (i := 5) rfl) rfl rfl rfl rfl rfl dX6_takeOver_30 ?_
  refine x_aload_n C dX6_takeOver_33 1 rfl ?_
  refine x_get C (xlo (i := 0) hb_o) (xhi (i := 0) hn_o rfl) ((ov_out (n := 8) rfl (by have hd := hd_b_o; omega)).trans (ov_at (i := 0) rfl)) f_X6_32 rfl dX6_takeOver_34 ?_
  refine x_iconst C 0 dX6_takeOver_37 rfl ?_
  refine x_aload_n C dX6_takeOver_38 0 rfl ?_
  refine x_get C (xlo (i := 0) hb_b) (xhi (i := 0) hn_b rfl) (ov_at (i := 0) rfl) f_X6_32 rfl dX6_takeOver_39 ?_
  refine x_iconst C 0 dX6_takeOver_42 rfl ?_
  refine x_iconst C 5 dX6_takeOver_43 rfl ?_
  refine x_copyi (G' := ov b (stT E b (mkS (va_cpy (vW u) (vW v) 0 0 64) (vFi u) (vLe u) (va_cpy (vRo u) (vRo v) 0 0 12) (vNe u) (vKe u) (vSa u) (vGr u) (vHo u) (vHw u) (vSu u) (va_cpy (vDe u) (vDe v) 0 0 5) (vGa v) (vLi v) (vSh v) (vSl v))) (ov o (stT E o u) G)) C 0 0 5 m_211 (xlo (i := 6) hb_o) (xhi (i := 6) hn_o rfl) ((ov_out (n := 8) rfl (by have hd := hd_b_o; omega)).trans (ov_at (i := 6) rfl)) (xlo (i := 6) hb_b) (xhi (i := 6) hn_b rfl) (ov_at (i := 6) rfl) (by decide) (by decide) (by decide) rfl rfl rfl (by decide) (by decide) rfl (by decide +kernel) (ov_set (i := 6) rfl rfl) dX6_takeOver_44 ?_
  refine x_aload_n C dX6_takeOver_47 1 rfl ?_
  refine x_get C (xlo (i := 0) hb_o) (xhi (i := 0) hn_o rfl) ((ov_out (n := 8) rfl (by have hd := hd_b_o; omega)).trans (ov_at (i := 0) rfl)) f_X6_36 rfl dX6_takeOver_48 ?_
  refine x_iconst C 0 dX6_takeOver_51 rfl ?_
  refine x_aload_n C dX6_takeOver_52 0 rfl ?_
  refine x_get C (xlo (i := 0) hb_b) (xhi (i := 0) hn_b rfl) (ov_at (i := 0) rfl) f_X6_36 rfl dX6_takeOver_53 ?_
  refine x_iconst C 0 dX6_takeOver_56 rfl ?_
  refine x_iconst C 5 dX6_takeOver_57 rfl ?_
  refine x_copyi (G' := ov b (stT E b (mkS (va_cpy (vW u) (vW v) 0 0 64) (vFi u) (vLe u) (va_cpy (vRo u) (vRo v) 0 0 12) (vNe u) (vKe u) (vSa u) (vGr u) (vHo u) (vHw u) (vSu u) (va_cpy (vDe u) (vDe v) 0 0 5) (va_cpy (vGa u) (vGa v) 0 0 5) (vLi v) (vSh v) (vSl v))) (ov o (stT E o u) G)) C 0 0 5 m_211 (xlo (i := 7) hb_o) (xhi (i := 7) hn_o rfl) ((ov_out (n := 8) rfl (by have hd := hd_b_o; omega)).trans (ov_at (i := 7) rfl)) (xlo (i := 7) hb_b) (xhi (i := 7) hn_b rfl) (ov_at (i := 7) rfl) (by decide) (by decide) (by decide) rfl rfl rfl (by decide) (by decide) rfl (by decide +kernel) (ov_set (i := 7) rfl rfl) dX6_takeOver_58 ?_
  refine x_aload_n C dX6_takeOver_61 0 rfl ?_
  refine x_aload_n C dX6_takeOver_62 1 rfl ?_
  refine x_get C (xlo (i := 0) hb_o) (xhi (i := 0) hn_o rfl) ((ov_out (n := 8) rfl (by have hd := hd_b_o; omega)).trans (ov_at (i := 0) rfl)) f_X6_39 rfl dX6_takeOver_63 ?_
  refine x_put (G' := ov b (stT E b (mkS (va_cpy (vW u) (vW v) 0 0 64) (vFi u) (vLe u) (va_cpy (vRo u) (vRo v) 0 0 12) (vNe u) (vKe u) (vSa u) (vGr u) (vHo u) (vHw u) (vSu u) (va_cpy (vDe u) (vDe v) 0 0 5) (va_cpy (vGa u) (vGa v) 0 0 5) (vLi u) (vSh v) (vSl v))) (ov o (stT E o u) G)) C (xlo (i := 0) hb_b) (xhi (i := 0) hn_b rfl) (ov_at (i := 0) rfl) f_X6_39 xt_X6 rfl rfl rfl rfl (ov_set (i := 0) rfl rfl) dX6_takeOver_66 ?_
  refine x_aload_n C dX6_takeOver_69 0 rfl ?_
  refine x_aload_n C dX6_takeOver_70 1 rfl ?_
  refine x_get C (xlo (i := 0) hb_o) (xhi (i := 0) hn_o rfl) ((ov_out (n := 8) rfl (by have hd := hd_b_o; omega)).trans (ov_at (i := 0) rfl)) f_X6_67 rfl dX6_takeOver_71 ?_
  refine x_put (G' := ov b (stT E b (mkS (va_cpy (vW u) (vW v) 0 0 64) (vFi u) (vLe u) (va_cpy (vRo u) (vRo v) 0 0 12) (vNe u) (vKe u) (vSa u) (vGr u) (vHo u) (vHw u) (vSu u) (va_cpy (vDe u) (vDe v) 0 0 5) (va_cpy (vGa u) (vGa v) 0 0 5) (vLi u) (vSh u) (vSl v))) (ov o (stT E o u) G)) C (xlo (i := 0) hb_b) (xhi (i := 0) hn_b rfl) (ov_at (i := 0) rfl) f_X6_67 xt_X6 rfl rfl rfl rfl (ov_set (i := 0) rfl rfl) dX6_takeOver_74 ?_
  refine x_aload_n C dX6_takeOver_77 0 rfl ?_
  refine x_aload_n C dX6_takeOver_78 1 rfl ?_
  refine x_get C (xlo (i := 0) hb_o) (xhi (i := 0) hn_o rfl) ((ov_out (n := 8) rfl (by have hd := hd_b_o; omega)).trans (ov_at (i := 0) rfl)) f_X6_98 rfl dX6_takeOver_79 ?_
  refine x_put (G' := ov b (stT E b (mkS (va_cpy (vW u) (vW v) 0 0 64) (vFi u) (vLe u) (va_cpy (vRo u) (vRo v) 0 0 12) (vNe u) (vKe u) (vSa u) (vGr u) (vHo u) (vHw u) (vSu u) (va_cpy (vDe u) (vDe v) 0 0 5) (va_cpy (vGa u) (vGa v) 0 0 5) (vLi u) (vSh u) (vSl u))) (ov o (stT E o u) G)) C (xlo (i := 0) hb_b) (xhi (i := 0) hn_b rfl) (ov_at (i := 0) rfl) f_X6_98 xt_X6 rfl rfl rfl rfl (ov_set (i := 0) rfl rfl) dX6_takeOver_82 ?_
  exact x_vret C Z rfl rfl rfl dX6_takeOver_85
end
