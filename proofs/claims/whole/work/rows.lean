section
/-- a private method of a class that the tables say can be made, by its rows of tables_1 -/
def lw_okq (q : MethodName × Nat) : Prop := (q.1.cls ≠ "java/lang/invoke/MethodHandle" ∧ q.1.cls ≠ "java/lang/invoke/VarHandle") ∧ Cond.instantiable q.1.cls q.2 ∈ tables_1 ∧ Cond.privateMethod q.1 ∈ tables_1 ∧ Cond.instanceMethod q.1 ∈ tables_1
theorem lw_p0 : lw_okq (⟨"SlateQuarry$LawReader", "readToken", "()V"⟩, 6) := ⟨⟨by decide +kernel, by decide +kernel⟩, List.mem_of_getElem? (i := 27) (by decide +kernel), List.mem_of_getElem? (i := 269) (by decide +kernel), List.mem_of_getElem? (i := 270) (by decide +kernel)⟩
theorem lw_p1 : lw_okq (⟨"SlateQuarry$LawReader", "skipBlanks", "()V"⟩, 6) := ⟨⟨by decide +kernel, by decide +kernel⟩, List.mem_of_getElem? (i := 27) (by decide +kernel), List.mem_of_getElem? (i := 273) (by decide +kernel), List.mem_of_getElem? (i := 274) (by decide +kernel)⟩
theorem lw_p2 : lw_okq (⟨"SlateQuarry$LawReader", "takeName", "()V"⟩, 6) := ⟨⟨by decide +kernel, by decide +kernel⟩, List.mem_of_getElem? (i := 27) (by decide +kernel), List.mem_of_getElem? (i := 284) (by decide +kernel), List.mem_of_getElem? (i := 285) (by decide +kernel)⟩
theorem lw_p3 : lw_okq (⟨"SlateQuarry$LawReader", "isTakenName", "(Ljava/lang/String;)Z"⟩, 6) := ⟨⟨by decide +kernel, by decide +kernel⟩, List.mem_of_getElem? (i := 27) (by decide +kernel), List.mem_of_getElem? (i := 296) (by decide +kernel), List.mem_of_getElem? (i := 297) (by decide +kernel)⟩
theorem lw_p4 : lw_okq (⟨"SlateQuarry$LawReader", "require", "(ZI)V"⟩, 6) := ⟨⟨by decide +kernel, by decide +kernel⟩, List.mem_of_getElem? (i := 27) (by decide +kernel), List.mem_of_getElem? (i := 348) (by decide +kernel), List.mem_of_getElem? (i := 349) (by decide +kernel)⟩
theorem lw_p5 : lw_okq (⟨"SlateQuarry$LawReader", "takeNumber", "()V"⟩, 6) := ⟨⟨by decide +kernel, by decide +kernel⟩, List.mem_of_getElem? (i := 27) (by decide +kernel), List.mem_of_getElem? (i := 355) (by decide +kernel), List.mem_of_getElem? (i := 356) (by decide +kernel)⟩
theorem lw_p6 : lw_okq (⟨"SlateQuarry$LawReader", "readLaw", "(LSlateQuarry$LawBook;)V"⟩, 6) := ⟨⟨by decide +kernel, by decide +kernel⟩, List.mem_of_getElem? (i := 27) (by decide +kernel), List.mem_of_getElem? (i := 359) (by decide +kernel), List.mem_of_getElem? (i := 360) (by decide +kernel)⟩
theorem lw_p7 : lw_okq (⟨"SlateQuarry$Cliff", "isLoose", "(I)Z"⟩, 1) := ⟨⟨by decide +kernel, by decide +kernel⟩, List.mem_of_getElem? (i := 103) (by decide +kernel), List.mem_of_getElem? (i := 431) (by decide +kernel), List.mem_of_getElem? (i := 432) (by decide +kernel)⟩
theorem lw_p8 : lw_okq (⟨"SlateQuarry", "gangAt", "(J)LSlateQuarry$Gang;"⟩, 15) := ⟨⟨by decide +kernel, by decide +kernel⟩, List.mem_of_getElem? (i := 19) (by decide +kernel), List.mem_of_getElem? (i := 439) (by decide +kernel), List.mem_of_getElem? (i := 440) (by decide +kernel)⟩
theorem lw_p9 : lw_okq (⟨"SlateQuarry", "letToBest", "(I)Z"⟩, 15) := ⟨⟨by decide +kernel, by decide +kernel⟩, List.mem_of_getElem? (i := 19) (by decide +kernel), List.mem_of_getElem? (i := 524) (by decide +kernel), List.mem_of_getElem? (i := 525) (by decide +kernel)⟩
theorem lw_p10 : lw_okq (⟨"SlateQuarry", "mayTake", "(LSlateQuarry$Gang;I)Z"⟩, 15) := ⟨⟨by decide +kernel, by decide +kernel⟩, List.mem_of_getElem? (i := 19) (by decide +kernel), List.mem_of_getElem? (i := 528) (by decide +kernel), List.mem_of_getElem? (i := 529) (by decide +kernel)⟩
theorem lw_p11 : lw_okq (⟨"SlateQuarry$Saw", "mostWith", "(IIIJ)I"⟩, 9) := ⟨⟨by decide +kernel, by decide +kernel⟩, List.mem_of_getElem? (i := 142) (by decide +kernel), List.mem_of_getElem? (i := 583) (by decide +kernel), List.mem_of_getElem? (i := 584) (by decide +kernel)⟩
theorem lw_p12 : lw_okq (⟨"SlateQuarry$Saw", "pieceFor", "(IIJ)I"⟩, 9) := ⟨⟨by decide +kernel, by decide +kernel⟩, List.mem_of_getElem? (i := 142) (by decide +kernel), List.mem_of_getElem? (i := 603) (by decide +kernel), List.mem_of_getElem? (i := 604) (by decide +kernel)⟩
theorem lw_p13 : lw_okq (⟨"SlateQuarry", "workBlock", "(LSlateQuarry$Gang;IJ)I"⟩, 15) := ⟨⟨by decide +kernel, by decide +kernel⟩, List.mem_of_getElem? (i := 19) (by decide +kernel), List.mem_of_getElem? (i := 615) (by decide +kernel), List.mem_of_getElem? (i := 616) (by decide +kernel)⟩
theorem lw_p14 : lw_okq (⟨"SlateQuarry", "sheetAt", "(I)LSlateQuarry$Sheet;"⟩, 15) := ⟨⟨by decide +kernel, by decide +kernel⟩, List.mem_of_getElem? (i := 19) (by decide +kernel), List.mem_of_getElem? (i := 645) (by decide +kernel), List.mem_of_getElem? (i := 646) (by decide +kernel)⟩
theorem lw_p15 : lw_okq (⟨"SlateQuarry$Sheet", "cutToLane", "(J)J"⟩, 3) := ⟨⟨by decide +kernel, by decide +kernel⟩, List.mem_of_getElem? (i := 180) (by decide +kernel), List.mem_of_getElem? (i := 677) (by decide +kernel), List.mem_of_getElem? (i := 678) (by decide +kernel)⟩
def lw_privs_1 : List (MethodName × Nat) := [(⟨"SlateQuarry$LawReader", "readToken", "()V"⟩, 6), (⟨"SlateQuarry$LawReader", "skipBlanks", "()V"⟩, 6), (⟨"SlateQuarry$LawReader", "takeName", "()V"⟩, 6), (⟨"SlateQuarry$LawReader", "isTakenName", "(Ljava/lang/String;)Z"⟩, 6), (⟨"SlateQuarry$LawReader", "require", "(ZI)V"⟩, 6), (⟨"SlateQuarry$LawReader", "takeNumber", "()V"⟩, 6), (⟨"SlateQuarry$LawReader", "readLaw", "(LSlateQuarry$LawBook;)V"⟩, 6), (⟨"SlateQuarry$Cliff", "isLoose", "(I)Z"⟩, 1), (⟨"SlateQuarry", "gangAt", "(J)LSlateQuarry$Gang;"⟩, 15), (⟨"SlateQuarry", "letToBest", "(I)Z"⟩, 15), (⟨"SlateQuarry", "mayTake", "(LSlateQuarry$Gang;I)Z"⟩, 15), (⟨"SlateQuarry$Saw", "mostWith", "(IIIJ)I"⟩, 9), (⟨"SlateQuarry$Saw", "pieceFor", "(IIJ)I"⟩, 9), (⟨"SlateQuarry", "workBlock", "(LSlateQuarry$Gang;IJ)I"⟩, 15), (⟨"SlateQuarry", "sheetAt", "(I)LSlateQuarry$Sheet;"⟩, 15), (⟨"SlateQuarry$Sheet", "cutToLane", "(J)J"⟩, 3)]
theorem lw_r1 : ∀ q ∈ lw_privs_1, lw_okq q := List.forall_mem_cons.mpr ⟨lw_p0, List.forall_mem_cons.mpr ⟨lw_p1, List.forall_mem_cons.mpr ⟨lw_p2, List.forall_mem_cons.mpr ⟨lw_p3, List.forall_mem_cons.mpr ⟨lw_p4, List.forall_mem_cons.mpr ⟨lw_p5, List.forall_mem_cons.mpr ⟨lw_p6, List.forall_mem_cons.mpr ⟨lw_p7, List.forall_mem_cons.mpr ⟨lw_p8, List.forall_mem_cons.mpr ⟨lw_p9, List.forall_mem_cons.mpr ⟨lw_p10, List.forall_mem_cons.mpr ⟨lw_p11, List.forall_mem_cons.mpr ⟨lw_p12, List.forall_mem_cons.mpr ⟨lw_p13, List.forall_mem_cons.mpr ⟨lw_p14, List.forall_mem_cons.mpr ⟨lw_p15, fun _ h => absurd h List.not_mem_nil⟩⟩⟩⟩⟩⟩⟩⟩⟩⟩⟩⟩⟩⟩⟩⟩
theorem lw_p16 : lw_okq (⟨"SlateQuarry", "haulBlock", "(LSlateQuarry$Sheet;J)I"⟩, 15) := ⟨⟨by decide +kernel, by decide +kernel⟩, List.mem_of_getElem? (i := 19) (by decide +kernel), List.mem_of_getElem? (i := 685) (by decide +kernel), List.mem_of_getElem? (i := 686) (by decide +kernel)⟩
theorem lw_p17 : lw_okq (⟨"SlateQuarryModel", "next", "()V"⟩, 42) := ⟨⟨by decide +kernel, by decide +kernel⟩, List.mem_of_getElem? (i := 707) (by decide +kernel), List.mem_of_getElem? (i := 856) (by decide +kernel), List.mem_of_getElem? (i := 857) (by decide +kernel)⟩
theorem lw_p18 : lw_okq (⟨"SlateQuarryModel", "look", "(I)I"⟩, 42) := ⟨⟨by decide +kernel, by decide +kernel⟩, List.mem_of_getElem? (i := 707) (by decide +kernel), List.mem_of_getElem? (i := 860) (by decide +kernel), List.mem_of_getElem? (i := 861) (by decide +kernel)⟩
theorem lw_p19 : lw_okq (⟨"SlateQuarryModel", "nameNow", "()I"⟩, 42) := ⟨⟨by decide +kernel, by decide +kernel⟩, List.mem_of_getElem? (i := 707) (by decide +kernel), List.mem_of_getElem? (i := 866) (by decide +kernel), List.mem_of_getElem? (i := 867) (by decide +kernel)⟩
theorem lw_p20 : lw_okq (⟨"SlateQuarryModel", "isName", "(IIIII)Z"⟩, 42) := ⟨⟨by decide +kernel, by decide +kernel⟩, List.mem_of_getElem? (i := 707) (by decide +kernel), List.mem_of_getElem? (i := 870) (by decide +kernel), List.mem_of_getElem? (i := 871) (by decide +kernel)⟩
theorem lw_p21 : lw_okq (⟨"SlateQuarryModel", "fails", "(II)V"⟩, 42) := ⟨⟨by decide +kernel, by decide +kernel⟩, List.mem_of_getElem? (i := 707) (by decide +kernel), List.mem_of_getElem? (i := 874) (by decide +kernel), List.mem_of_getElem? (i := 875) (by decide +kernel)⟩
theorem lw_p22 : lw_okq (⟨"SlateQuarryModel", "readLaw", "()V"⟩, 42) := ⟨⟨by decide +kernel, by decide +kernel⟩, List.mem_of_getElem? (i := 707) (by decide +kernel), List.mem_of_getElem? (i := 880) (by decide +kernel), List.mem_of_getElem? (i := 881) (by decide +kernel)⟩
theorem lw_p23 : lw_okq (⟨"SlateQuarryModel", "wants", "(II)V"⟩, 42) := ⟨⟨by decide +kernel, by decide +kernel⟩, List.mem_of_getElem? (i := 707) (by decide +kernel), List.mem_of_getElem? (i := 884) (by decide +kernel), List.mem_of_getElem? (i := 885) (by decide +kernel)⟩
theorem lw_p24 : lw_okq (⟨"SlateQuarryModel", "taken", "()I"⟩, 42) := ⟨⟨by decide +kernel, by decide +kernel⟩, List.mem_of_getElem? (i := 707) (by decide +kernel), List.mem_of_getElem? (i := 888) (by decide +kernel), List.mem_of_getElem? (i := 889) (by decide +kernel)⟩
theorem lw_p25 : lw_okq (⟨"SlateQuarryModel", "lawMany", "()I"⟩, 42) := ⟨⟨by decide +kernel, by decide +kernel⟩, List.mem_of_getElem? (i := 707) (by decide +kernel), List.mem_of_getElem? (i := 892) (by decide +kernel), List.mem_of_getElem? (i := 893) (by decide +kernel)⟩
theorem lw_p26 : lw_okq (⟨"SlateQuarryModel", "lawOf", "(I)I"⟩, 42) := ⟨⟨by decide +kernel, by decide +kernel⟩, List.mem_of_getElem? (i := 707) (by decide +kernel), List.mem_of_getElem? (i := 905) (by decide +kernel), List.mem_of_getElem? (i := 906) (by decide +kernel)⟩
theorem lw_p27 : lw_okq (⟨"SlateQuarryModel", "poundage", "(I)I"⟩, 42) := ⟨⟨by decide +kernel, by decide +kernel⟩, List.mem_of_getElem? (i := 707) (by decide +kernel), List.mem_of_getElem? (i := 911) (by decide +kernel), List.mem_of_getElem? (i := 912) (by decide +kernel)⟩
theorem lw_p28 : lw_okq (⟨"SlateQuarryModel", "mayBeWorked", "(I)Z"⟩, 42) := ⟨⟨by decide +kernel, by decide +kernel⟩, List.mem_of_getElem? (i := 707) (by decide +kernel), List.mem_of_getElem? (i := 929) (by decide +kernel), List.mem_of_getElem? (i := 930) (by decide +kernel)⟩
theorem lw_p29 : lw_okq (⟨"SlateQuarryModel", "isGang", "(I)Z"⟩, 42) := ⟨⟨by decide +kernel, by decide +kernel⟩, List.mem_of_getElem? (i := 707) (by decide +kernel), List.mem_of_getElem? (i := 937) (by decide +kernel), List.mem_of_getElem? (i := 938) (by decide +kernel)⟩
theorem lw_p30 : lw_okq (⟨"SlateQuarryModel", "askMany", "()I"⟩, 42) := ⟨⟨by decide +kernel, by decide +kernel⟩, List.mem_of_getElem? (i := 707) (by decide +kernel), List.mem_of_getElem? (i := 961) (by decide +kernel), List.mem_of_getElem? (i := 962) (by decide +kernel)⟩
theorem lw_p31 : lw_okq (⟨"SlateQuarryModel", "mostOf", "(IJ)I"⟩, 42) := ⟨⟨by decide +kernel, by decide +kernel⟩, List.mem_of_getElem? (i := 707) (by decide +kernel), List.mem_of_getElem? (i := 987) (by decide +kernel), List.mem_of_getElem? (i := 988) (by decide +kernel)⟩
def lw_privs_2 : List (MethodName × Nat) := [(⟨"SlateQuarry", "haulBlock", "(LSlateQuarry$Sheet;J)I"⟩, 15), (⟨"SlateQuarryModel", "next", "()V"⟩, 42), (⟨"SlateQuarryModel", "look", "(I)I"⟩, 42), (⟨"SlateQuarryModel", "nameNow", "()I"⟩, 42), (⟨"SlateQuarryModel", "isName", "(IIIII)Z"⟩, 42), (⟨"SlateQuarryModel", "fails", "(II)V"⟩, 42), (⟨"SlateQuarryModel", "readLaw", "()V"⟩, 42), (⟨"SlateQuarryModel", "wants", "(II)V"⟩, 42), (⟨"SlateQuarryModel", "taken", "()I"⟩, 42), (⟨"SlateQuarryModel", "lawMany", "()I"⟩, 42), (⟨"SlateQuarryModel", "lawOf", "(I)I"⟩, 42), (⟨"SlateQuarryModel", "poundage", "(I)I"⟩, 42), (⟨"SlateQuarryModel", "mayBeWorked", "(I)Z"⟩, 42), (⟨"SlateQuarryModel", "isGang", "(I)Z"⟩, 42), (⟨"SlateQuarryModel", "askMany", "()I"⟩, 42), (⟨"SlateQuarryModel", "mostOf", "(IJ)I"⟩, 42)]
theorem lw_r2 : ∀ q ∈ lw_privs_2, lw_okq q := List.forall_mem_cons.mpr ⟨lw_p16, List.forall_mem_cons.mpr ⟨lw_p17, List.forall_mem_cons.mpr ⟨lw_p18, List.forall_mem_cons.mpr ⟨lw_p19, List.forall_mem_cons.mpr ⟨lw_p20, List.forall_mem_cons.mpr ⟨lw_p21, List.forall_mem_cons.mpr ⟨lw_p22, List.forall_mem_cons.mpr ⟨lw_p23, List.forall_mem_cons.mpr ⟨lw_p24, List.forall_mem_cons.mpr ⟨lw_p25, List.forall_mem_cons.mpr ⟨lw_p26, List.forall_mem_cons.mpr ⟨lw_p27, List.forall_mem_cons.mpr ⟨lw_p28, List.forall_mem_cons.mpr ⟨lw_p29, List.forall_mem_cons.mpr ⟨lw_p30, List.forall_mem_cons.mpr ⟨lw_p31, fun _ h => absurd h List.not_mem_nil⟩⟩⟩⟩⟩⟩⟩⟩⟩⟩⟩⟩⟩⟩⟩⟩
theorem lw_p32 : lw_okq (⟨"SlateQuarryModel", "fits", "(IIIJ)Z"⟩, 42) := ⟨⟨by decide +kernel, by decide +kernel⟩, List.mem_of_getElem? (i := 707) (by decide +kernel), List.mem_of_getElem? (i := 991) (by decide +kernel), List.mem_of_getElem? (i := 992) (by decide +kernel)⟩
theorem lw_p33 : lw_okq (⟨"SlateQuarryModel", "choice", "(IIJ)I"⟩, 42) := ⟨⟨by decide +kernel, by decide +kernel⟩, List.mem_of_getElem? (i := 707) (by decide +kernel), List.mem_of_getElem? (i := 999) (by decide +kernel), List.mem_of_getElem? (i := 1000) (by decide +kernel)⟩
theorem lw_p34 : lw_okq (⟨"SlateQuarryModel", "mayWork", "(I)Z"⟩, 42) := ⟨⟨by decide +kernel, by decide +kernel⟩, List.mem_of_getElem? (i := 707) (by decide +kernel), List.mem_of_getElem? (i := 1007) (by decide +kernel), List.mem_of_getElem? (i := 1008) (by decide +kernel)⟩
theorem lw_p35 : lw_okq (⟨"SlateQuarryModel", "works", "(IIJ)I"⟩, 42) := ⟨⟨by decide +kernel, by decide +kernel⟩, List.mem_of_getElem? (i := 707) (by decide +kernel), List.mem_of_getElem? (i := 1011) (by decide +kernel), List.mem_of_getElem? (i := 1012) (by decide +kernel)⟩
def lw_privs_3 : List (MethodName × Nat) := [(⟨"SlateQuarryModel", "fits", "(IIIJ)Z"⟩, 42), (⟨"SlateQuarryModel", "choice", "(IIJ)I"⟩, 42), (⟨"SlateQuarryModel", "mayWork", "(I)Z"⟩, 42), (⟨"SlateQuarryModel", "works", "(IIJ)I"⟩, 42)]
theorem lw_r3 : ∀ q ∈ lw_privs_3, lw_okq q := List.forall_mem_cons.mpr ⟨lw_p32, List.forall_mem_cons.mpr ⟨lw_p33, List.forall_mem_cons.mpr ⟨lw_p34, List.forall_mem_cons.mpr ⟨lw_p35, fun _ h => absurd h List.not_mem_nil⟩⟩⟩⟩
def lw_privs : List (MethodName × Nat) := lw_privs_1 ++ (lw_privs_2 ++ (lw_privs_3))
def lw_tbl : List Cond := k2_sels lw_privs ++ tables_1
theorem lw_privs_ok : ∀ q ∈ lw_privs, lw_okq q := by
  show ∀ q ∈ lw_privs_1 ++ (lw_privs_2 ++ (lw_privs_3)), lw_okq q
  exact List.forall_mem_append.mpr ⟨lw_r1, List.forall_mem_append.mpr ⟨lw_r2, lw_r3⟩⟩
end
section
def RX0 : String := "SlateQuarry$Cliff"
def TX0 : u_T := fun k => match k with
  | _ => ("SlateQuarry$Cliff", "walls", "[LSlateQuarry$Wall;", true)
def tyX0 : Nat → FieldType := fun k => match k with
  | _ => .array (.object "SlateQuarry$Wall")
abbrev wsX00 : List Cond := u_ws RX0 TX0 1
theorem nmX0 : ∀ a, a < 1 → ∀ b, b < 1 → a ≠ b → (TX0 a).2.1 ≠ (TX0 b).2.1 := by decide +kernel
theorem tyX0_ok : ∀ k, k < 1 → parseFieldDescriptor (TX0 k).2.2.1 = some (tyX0 k) := by decide +kernel
abbrev cX0_init : ByteArray := prog_2_method_1_code
def yX0_init : MethodName := ⟨RX0, "<init>", "()V"⟩
abbrev cX0_isGoodness : ByteArray := prog_2_method_2_code
def yX0_isGoodness : MethodName := ⟨RX0, "isGoodness", "(I)Z"⟩
abbrev cX0_indexOf : ByteArray := prog_2_method_3_code
def yX0_indexOf : MethodName := ⟨RX0, "indexOf", "(II)I"⟩
abbrev cX0_wallAt : ByteArray := prog_2_method_4_code
def yX0_wallAt : MethodName := ⟨RX0, "wallAt", "(I)LSlateQuarry$Wall;"⟩
abbrev cX0_mayBeWorked : ByteArray := prog_2_method_5_code
def yX0_mayBeWorked : MethodName := ⟨RX0, "mayBeWorked", "(I)Z"⟩
abbrev cX0_isLoose : ByteArray := prog_2_method_6_code
def yX0_isLoose : MethodName := ⟨RX0, "isLoose", "(I)Z"⟩
abbrev cX0_loosenAbove : ByteArray := prog_2_method_7_code
def yX0_loosenAbove : MethodName := ⟨RX0, "loosenAbove", "(II)V"⟩
abbrev cX0_freeAll : ByteArray := prog_2_method_8_code
def yX0_freeAll : MethodName := ⟨RX0, "freeAll", "()V"⟩
abbrev cX0_heldWalls : ByteArray := prog_2_method_9_code
def yX0_heldWalls : MethodName := ⟨RX0, "heldWalls", "()I"⟩
abbrev cX0_looseWalls : ByteArray := prog_2_method_10_code
def yX0_looseWalls : MethodName := ⟨RX0, "looseWalls", "()I"⟩
def RX1 : String := "SlateQuarry$Gang"
def TX1 : u_T := fun k => match k with
  | 0 => ("SlateQuarry$Gang", "asks", "[I", true)
  | 1 => ("SlateQuarry$Gang", "men", "I", false)
  | 2 => ("SlateQuarry$Gang", "account", "I", false)
  | 3 => ("SlateQuarry$Gang", "wallsSoFar", "I", false)
  | 4 => ("SlateQuarry$Gang", "wall", "I", false)
  | 5 => ("SlateQuarry$Gang", "letFor", "I", false)
  | 6 => ("SlateQuarry$Gang", "blocks", "I", false)
  | _ => ("SlateQuarry$Gang", "hasPaidTools", "Z", false)
def tyX1 : Nat → FieldType := fun k => match k with
  | 0 => .array .int
  | 1 => .int
  | 2 => .int
  | 3 => .int
  | 4 => .int
  | 5 => .int
  | 6 => .int
  | _ => .boolean
abbrev wsX10 : List Cond := u_ws RX1 TX1 8
theorem nmX1 : ∀ a, a < 8 → ∀ b, b < 8 → a ≠ b → (TX1 a).2.1 ≠ (TX1 b).2.1 := by decide +kernel
theorem tyX1_ok : ∀ k, k < 8 → parseFieldDescriptor (TX1 k).2.2.1 = some (tyX1 k) := by decide +kernel
abbrev cX1_init : ByteArray := prog_3_method_1_code
def yX1_init : MethodName := ⟨RX1, "<init>", "(I)V"⟩
abbrev cX1_hasWall : ByteArray := prog_3_method_2_code
def yX1_hasWall : MethodName := ⟨RX1, "hasWall", "()Z"⟩
abbrev cX1_askFor : ByteArray := prog_3_method_3_code
def yX1_askFor : MethodName := ⟨RX1, "askFor", "(I)I"⟩
abbrev cX1_setAsk : ByteArray := prog_3_method_4_code
def yX1_setAsk : MethodName := ⟨RX1, "setAsk", "(II)V"⟩
abbrev cX1_take : ByteArray := prog_3_method_5_code
def yX1_take : MethodName := ⟨RX1, "take", "(I)V"⟩
abbrev cX1_endMonth : ByteArray := prog_3_method_6_code
def yX1_endMonth : MethodName := ⟨RX1, "endMonth", "()V"⟩
abbrev cX1_shareOf : ByteArray := prog_3_method_7_code
def yX1_shareOf : MethodName := ⟨RX1, "shareOf", "(I)I"⟩
abbrev cX1_takePay : ByteArray := prog_3_method_8_code
def yX1_takePay : MethodName := ⟨RX1, "takePay", "(II)V"⟩
def RX2 : String := "SlateQuarry$LawBook"
def TX2 : u_T := fun k => match k with
  | 0 => ("SlateQuarry$LawBook", "numbers", "[I", true)
  | 1 => ("SlateQuarry$LawBook", "isTold", "[Z", true)
  | 2 => ("SlateQuarry$LawBook", "goodnesses", "[I", true)
  | 3 => ("SlateQuarry$LawBook", "poundages", "[I", true)
  | 4 => ("SlateQuarry$LawBook", "pounds", "I", false)
  | _ => ("SlateQuarry$LawBook", "total", "I", false)
def tyX2 : Nat → FieldType := fun k => match k with
  | 0 => .array .int
  | 1 => .array .boolean
  | 2 => .array .int
  | 3 => .array .int
  | 4 => .int
  | _ => .int
abbrev wsX20 : List Cond := u_ws RX2 TX2 6
theorem nmX2 : ∀ a, a < 6 → ∀ b, b < 6 → a ≠ b → (TX2 a).2.1 ≠ (TX2 b).2.1 := by decide +kernel
theorem tyX2_ok : ∀ k, k < 6 → parseFieldDescriptor (TX2 k).2.2.1 = some (tyX2 k) := by decide +kernel
abbrev cX2_init : ByteArray := prog_4_method_1_code
def yX2_init : MethodName := ⟨RX2, "<init>", "()V"⟩
abbrev cX2_nameOf : ByteArray := prog_4_method_2_code
def yX2_nameOf : MethodName := ⟨RX2, "nameOf", "(I)Ljava/lang/String;"⟩
abbrev cX2_forget : ByteArray := prog_4_method_3_code
def yX2_forget : MethodName := ⟨RX2, "forget", "()V"⟩
abbrev cX2_isNumberLaw : ByteArray := prog_4_method_4_code
def yX2_isNumberLaw : MethodName := ⟨RX2, "isNumberLaw", "(I)Z"⟩
abbrev cX2_mayTell : ByteArray := prog_4_method_5_code
def yX2_mayTell : MethodName := ⟨RX2, "mayTell", "(I)Z"⟩
abbrev cX2_isInBounds : ByteArray := prog_4_method_6_code
def yX2_isInBounds : MethodName := ⟨RX2, "isInBounds", "(II)Z"⟩
abbrev cX2_isPoundage : ByteArray := prog_4_method_7_code
def yX2_isPoundage : MethodName := ⟨RX2, "isPoundage", "(I)Z"⟩
abbrev cX2_isAbovePounds : ByteArray := prog_4_method_8_code
def yX2_isAbovePounds : MethodName := ⟨RX2, "isAbovePounds", "(I)Z"⟩
abbrev cX2_tell : ByteArray := prog_4_method_9_code
def yX2_tell : MethodName := ⟨RX2, "tell", "(III)V"⟩
abbrev cX2_numberOf : ByteArray := prog_4_method_10_code
def yX2_numberOf : MethodName := ⟨RX2, "numberOf", "(I)I"⟩
abbrev cX2_poundageOf : ByteArray := prog_4_method_11_code
def yX2_poundageOf : MethodName := ⟨RX2, "poundageOf", "(I)I"⟩
abbrev cX2_letsAsk : ByteArray := prog_4_method_12_code
def yX2_letsAsk : MethodName := ⟨RX2, "letsAsk", "(I)Z"⟩
def RX3 : String := "SlateQuarry$LawReader"
def TX3 : u_T := fun k => match k with
  | 0 => ("SlateQuarry$LawReader", "tape", "LSlateQuarry$Tape;", true)
  | 1 => ("SlateQuarry$LawReader", "next", "I", false)
  | 2 => ("SlateQuarry$LawReader", "token", "I", false)
  | 3 => ("SlateQuarry$LawReader", "value", "I", false)
  | 4 => ("SlateQuarry$LawReader", "fault", "I", false)
  | _ => ("SlateQuarry$LawReader", "place", "I", false)
def tyX3 : Nat → FieldType := fun k => match k with
  | 0 => .object "SlateQuarry$Tape"
  | 1 => .int
  | 2 => .int
  | 3 => .int
  | 4 => .int
  | _ => .int
abbrev wsX30 : List Cond := u_ws RX3 TX3 6
theorem nmX3 : ∀ a, a < 6 → ∀ b, b < 6 → a ≠ b → (TX3 a).2.1 ≠ (TX3 b).2.1 := by decide +kernel
theorem tyX3_ok : ∀ k, k < 6 → parseFieldDescriptor (TX3 k).2.2.1 = some (tyX3 k) := by decide +kernel
abbrev cX3_init : ByteArray := prog_5_method_1_code
def yX3_init : MethodName := ⟨RX3, "<init>", "()V"⟩
abbrev cX3_read : ByteArray := prog_5_method_2_code
def yX3_read : MethodName := ⟨RX3, "read", "(LSlateQuarry$LawBook;)I"⟩
abbrev cX3_readLaw : ByteArray := prog_5_method_3_code
def yX3_readLaw : MethodName := ⟨RX3, "readLaw", "(LSlateQuarry$LawBook;)V"⟩
abbrev cX3_require : ByteArray := prog_5_method_4_code
def yX3_require : MethodName := ⟨RX3, "require", "(ZI)V"⟩
abbrev cX3_readToken : ByteArray := prog_5_method_5_code
def yX3_readToken : MethodName := ⟨RX3, "readToken", "()V"⟩
abbrev cX3_skipBlanks : ByteArray := prog_5_method_6_code
def yX3_skipBlanks : MethodName := ⟨RX3, "skipBlanks", "()V"⟩
abbrev cX3_takeName : ByteArray := prog_5_method_7_code
def yX3_takeName : MethodName := ⟨RX3, "takeName", "()V"⟩
abbrev cX3_isTakenName : ByteArray := prog_5_method_8_code
def yX3_isTakenName : MethodName := ⟨RX3, "isTakenName", "(Ljava/lang/String;)Z"⟩
abbrev cX3_takeNumber : ByteArray := prog_5_method_9_code
def yX3_takeNumber : MethodName := ⟨RX3, "takeNumber", "()V"⟩
abbrev cX3_isLetter : ByteArray := prog_5_method_10_code
def yX3_isLetter : MethodName := ⟨RX3, "isLetter", "(I)Z"⟩
abbrev cX3_isFigure : ByteArray := prog_5_method_11_code
def yX3_isFigure : MethodName := ⟨RX3, "isFigure", "(I)Z"⟩
def RX4 : String := "SlateQuarry$Saw"
def TX4 : u_T := fun k => match k with
  | 0 => ("SlateQuarry$Saw", "lengths", "[I", true)
  | 1 => ("SlateQuarry$Saw", "prices", "[I", true)
  | 2 => ("SlateQuarry$Saw", "slateCounts", "[I", true)
  | 3 => ("SlateQuarry$Saw", "sizeCount", "I", false)
  | 4 => ("SlateQuarry$Saw", "mostFrom", "[I", true)
  | 5 => ("SlateQuarry$Saw", "pieces", "[I", true)
  | 6 => ("SlateQuarry$Saw", "pieceCount", "I", false)
  | 7 => ("SlateQuarry$Saw", "rubbish", "I", false)
  | _ => ("SlateQuarry$Saw", "worth", "I", false)
def tyX4 : Nat → FieldType := fun k => match k with
  | 0 => .array .int
  | 1 => .array .int
  | 2 => .array .int
  | 3 => .int
  | 4 => .array .int
  | 5 => .array .int
  | 6 => .int
  | 7 => .int
  | _ => .int
abbrev wsX40 : List Cond := u_ws RX4 TX4 9
theorem nmX4 : ∀ a, a < 9 → ∀ b, b < 9 → a ≠ b → (TX4 a).2.1 ≠ (TX4 b).2.1 := by decide +kernel
theorem tyX4_ok : ∀ k, k < 9 → parseFieldDescriptor (TX4 k).2.2.1 = some (tyX4 k) := by decide +kernel
abbrev cX4_init : ByteArray := prog_6_method_1_code
def yX4_init : MethodName := ⟨RX4, "<init>", "()V"⟩
abbrev cX4_isSlate : ByteArray := prog_6_method_2_code
def yX4_isSlate : MethodName := ⟨RX4, "isSlate", "(II)Z"⟩
abbrev cX4_isBlock : ByteArray := prog_6_method_3_code
def yX4_isBlock : MethodName := ⟨RX4, "isBlock", "(JJ)Z"⟩
abbrev cX4_addSize : ByteArray := prog_6_method_4_code
def yX4_addSize : MethodName := ⟨RX4, "addSize", "(II)I"⟩
abbrev cX4_hasSize : ByteArray := prog_6_method_5_code
def yX4_hasSize : MethodName := ⟨RX4, "hasSize", "(I)Z"⟩
abbrev cX4_slatesOf : ByteArray := prog_6_method_6_code
def yX4_slatesOf : MethodName := ⟨RX4, "slatesOf", "(I)I"⟩
abbrev cX4_mostOf : ByteArray := prog_6_method_7_code
def yX4_mostOf : MethodName := ⟨RX4, "mostOf", "(IJ)I"⟩
abbrev cX4_mostWith : ByteArray := prog_6_method_8_code
def yX4_mostWith : MethodName := ⟨RX4, "mostWith", "(IIIJ)I"⟩
abbrev cX4_cut : ByteArray := prog_6_method_9_code
def yX4_cut : MethodName := ⟨RX4, "cut", "(IJ)V"⟩
abbrev cX4_pieceFor : ByteArray := prog_6_method_10_code
def yX4_pieceFor : MethodName := ⟨RX4, "pieceFor", "(IIJ)I"⟩
abbrev cX4_pieceAt : ByteArray := prog_6_method_11_code
def yX4_pieceAt : MethodName := ⟨RX4, "pieceAt", "(I)I"⟩
abbrev cX4_countSlates : ByteArray := prog_6_method_12_code
def yX4_countSlates : MethodName := ⟨RX4, "countSlates", "()V"⟩
def RX5 : String := "SlateQuarry$Sheet"
def TX5 : u_T := fun k => match k with
  | 0 => ("SlateQuarry$Sheet", "cells", "[J", true)
  | 1 => ("SlateQuarry$Sheet", "cellCount", "I", false)
  | _ => ("SlateQuarry$Sheet", "lane", "I", false)
def tyX5 : Nat → FieldType := fun k => match k with
  | 0 => .array .long
  | 1 => .int
  | _ => .int
abbrev wsX50 : List Cond := u_ws RX5 TX5 3
theorem nmX5 : ∀ a, a < 3 → ∀ b, b < 3 → a ≠ b → (TX5 a).2.1 ≠ (TX5 b).2.1 := by decide +kernel
theorem tyX5_ok : ∀ k, k < 3 → parseFieldDescriptor (TX5 k).2.2.1 = some (tyX5 k) := by decide +kernel
abbrev cX5_init : ByteArray := prog_7_method_1_code
def yX5_init : MethodName := ⟨RX5, "<init>", "()V"⟩
abbrev cX5_isLane : ByteArray := prog_7_method_2_code
def yX5_isLane : MethodName := ⟨RX5, "isLane", "(I)Z"⟩
abbrev cX5_isNothing : ByteArray := prog_7_method_3_code
def yX5_isNothing : MethodName := ⟨RX5, "isNothing", "()Z"⟩
abbrev cX5_renew : ByteArray := prog_7_method_4_code
def yX5_renew : MethodName := ⟨RX5, "renew", "(II)V"⟩
abbrev cX5_hasCell : ByteArray := prog_7_method_5_code
def yX5_hasCell : MethodName := ⟨RX5, "hasCell", "(J)Z"⟩
abbrev cX5_setCell : ByteArray := prog_7_method_6_code
def yX5_setCell : MethodName := ⟨RX5, "setCell", "(IJ)V"⟩
abbrev cX5_cutToLane : ByteArray := prog_7_method_7_code
def yX5_cutToLane : MethodName := ⟨RX5, "cutToLane", "(J)J"⟩
abbrev cX5_cellAt : ByteArray := prog_7_method_8_code
def yX5_cellAt : MethodName := ⟨RX5, "cellAt", "(J)J"⟩
def RX6 : String := "SlateQuarry$Tape"
def TX6 : u_T := fun k => match k with
  | 0 => ("SlateQuarry$Tape", "bytes", "[B", true)
  | _ => ("SlateQuarry$Tape", "length", "I", false)
def tyX6 : Nat → FieldType := fun k => match k with
  | 0 => .array .byte
  | _ => .int
abbrev wsX60 : List Cond := u_ws RX6 TX6 2
theorem nmX6 : ∀ a, a < 2 → ∀ b, b < 2 → a ≠ b → (TX6 a).2.1 ≠ (TX6 b).2.1 := by decide +kernel
theorem tyX6_ok : ∀ k, k < 2 → parseFieldDescriptor (TX6 k).2.2.1 = some (tyX6 k) := by decide +kernel
abbrev cX6_init : ByteArray := prog_8_method_1_code
def yX6_init : MethodName := ⟨RX6, "<init>", "()V"⟩
abbrev cX6_append : ByteArray := prog_8_method_2_code
def yX6_append : MethodName := ⟨RX6, "append", "(J)Z"⟩
abbrev cX6_keepFirst : ByteArray := prog_8_method_3_code
def yX6_keepFirst : MethodName := ⟨RX6, "keepFirst", "(I)Z"⟩
abbrev cX6_empty : ByteArray := prog_8_method_4_code
def yX6_empty : MethodName := ⟨RX6, "empty", "()V"⟩
abbrev cX6_byteAt : ByteArray := prog_8_method_5_code
def yX6_byteAt : MethodName := ⟨RX6, "byteAt", "(I)I"⟩
def RX7 : String := "SlateQuarry$Wall"
def TX7 : u_T := fun k => match k with
  | 0 => ("SlateQuarry$Wall", "goodness", "I", false)
  | 1 => ("SlateQuarry$Wall", "steps", "I", false)
  | 2 => ("SlateQuarry$Wall", "loose", "Z", false)
  | _ => ("SlateQuarry$Wall", "holder", "I", false)
def tyX7 : Nat → FieldType := fun k => match k with
  | 0 => .int
  | 1 => .int
  | 2 => .boolean
  | _ => .int
abbrev wsX70 : List Cond := u_ws RX7 TX7 4
theorem nmX7 : ∀ a, a < 4 → ∀ b, b < 4 → a ≠ b → (TX7 a).2.1 ≠ (TX7 b).2.1 := by decide +kernel
theorem tyX7_ok : ∀ k, k < 4 → parseFieldDescriptor (TX7 k).2.2.1 = some (tyX7 k) := by decide +kernel
abbrev cX7_init : ByteArray := prog_9_method_1_code
def yX7_init : MethodName := ⟨RX7, "<init>", "()V"⟩
def RX8 : String := "SlateQuarry"
def TX8 : u_T := fun k => match k with
  | 0 => ("SlateQuarry", "reader", "LSlateQuarry$LawReader;", true)
  | 1 => ("SlateQuarry", "book", "LSlateQuarry$LawBook;", false)
  | 2 => ("SlateQuarry", "draft", "LSlateQuarry$LawBook;", false)
  | 3 => ("SlateQuarry", "latestFault", "I", false)
  | 4 => ("SlateQuarry", "cliff", "LSlateQuarry$Cliff;", true)
  | 5 => ("SlateQuarry", "gangs", "[LSlateQuarry$Gang;", true)
  | 6 => ("SlateQuarry", "gangCount", "I", false)
  | 7 => ("SlateQuarry", "askCount", "I", false)
  | 8 => ("SlateQuarry", "monthIsLet", "Z", false)
  | 9 => ("SlateQuarry", "monthNumber", "I", false)
  | 10 => ("SlateQuarry", "saw", "LSlateQuarry$Saw;", true)
  | 11 => ("SlateQuarry", "clubPence", "I", false)
  | 12 => ("SlateQuarry", "blocksWorked", "I", false)
  | 13 => ("SlateQuarry", "rubbishPlaces", "I", false)
  | _ => ("SlateQuarry", "sheets", "[LSlateQuarry$Sheet;", true)
def tyX8 : Nat → FieldType := fun k => match k with
  | 0 => .object "SlateQuarry$LawReader"
  | 1 => .object "SlateQuarry$LawBook"
  | 2 => .object "SlateQuarry$LawBook"
  | 3 => .int
  | 4 => .object "SlateQuarry$Cliff"
  | 5 => .array (.object "SlateQuarry$Gang")
  | 6 => .int
  | 7 => .int
  | 8 => .boolean
  | 9 => .int
  | 10 => .object "SlateQuarry$Saw"
  | 11 => .int
  | 12 => .int
  | 13 => .int
  | _ => .array (.object "SlateQuarry$Sheet")
abbrev wsX80 : List Cond := u_ws RX8 TX8 15
theorem nmX8 : ∀ a, a < 15 → ∀ b, b < 15 → a ≠ b → (TX8 a).2.1 ≠ (TX8 b).2.1 := by decide +kernel
theorem tyX8_ok : ∀ k, k < 15 → parseFieldDescriptor (TX8 k).2.2.1 = some (tyX8 k) := by decide +kernel
abbrev cX8_init : ByteArray := prog_1_method_1_code
def yX8_init : MethodName := ⟨RX8, "<init>", "()V"⟩
abbrev cX8_feed : ByteArray := prog_1_method_2_code
def yX8_feed : MethodName := ⟨RX8, "feed", "(J)I"⟩
abbrev cX8_end : ByteArray := prog_1_method_3_code
def yX8_end : MethodName := ⟨RX8, "end", "(I)I"⟩
abbrev cX8_laws : ByteArray := prog_1_method_4_code
def yX8_laws : MethodName := ⟨RX8, "laws", "()I"⟩
abbrev cX8_fault : ByteArray := prog_1_method_5_code
def yX8_fault : MethodName := ⟨RX8, "fault", "()I"⟩
abbrev cX8_law : ByteArray := prog_1_method_6_code
def yX8_law : MethodName := ⟨RX8, "law", "(I)I"⟩
abbrev cX8_rock : ByteArray := prog_1_method_7_code
def yX8_rock : MethodName := ⟨RX8, "rock", "(III)I"⟩
abbrev cX8_face : ByteArray := prog_1_method_8_code
def yX8_face : MethodName := ⟨RX8, "face", "(III)I"⟩
abbrev cX8_clear : ByteArray := prog_1_method_9_code
def yX8_clear : MethodName := ⟨RX8, "clear", "(III)I"⟩
abbrev cX8_gang : ByteArray := prog_1_method_10_code
def yX8_gang : MethodName := ⟨RX8, "gang", "(I)I"⟩
abbrev cX8_told : ByteArray := prog_1_method_11_code
def yX8_told : MethodName := ⟨RX8, "told", "(II)I"⟩
abbrev cX8_move : ByteArray := prog_1_method_12_code
def yX8_move : MethodName := ⟨RX8, "move", "(III)I"⟩
abbrev cX8_ask : ByteArray := prog_1_method_13_code
def yX8_ask : MethodName := ⟨RX8, "ask", "(IIII)I"⟩
abbrev cX8_let : ByteArray := prog_1_method_14_code
def yX8_let : MethodName := ⟨RX8, "let", "()I"⟩
abbrev cX8_month : ByteArray := prog_1_method_15_code
def yX8_month : MethodName := ⟨RX8, "month", "()I"⟩
abbrev cX8_size : ByteArray := prog_1_method_16_code
def yX8_size : MethodName := ⟨RX8, "size", "(II)I"⟩
abbrev cX8_most : ByteArray := prog_1_method_17_code
def yX8_most : MethodName := ⟨RX8, "most", "(IJ)I"⟩
abbrev cX8_split : ByteArray := prog_1_method_18_code
def yX8_split : MethodName := ⟨RX8, "split", "(IJI)I"⟩
abbrev cX8_work : ByteArray := prog_1_method_19_code
def yX8_work : MethodName := ⟨RX8, "work", "(IIJ)I"⟩
abbrev cX8_slates : ByteArray := prog_1_method_20_code
def yX8_slates : MethodName := ⟨RX8, "slates", "(I)I"⟩
abbrev cX8_sheet : ByteArray := prog_1_method_21_code
def yX8_sheet : MethodName := ⟨RX8, "sheet", "(III)I"⟩
abbrev cX8_lay : ByteArray := prog_1_method_22_code
def yX8_lay : MethodName := ⟨RX8, "lay", "(IIJ)I"⟩
abbrev cX8_haul : ByteArray := prog_1_method_23_code
def yX8_haul : MethodName := ⟨RX8, "haul", "(IIII)I"⟩
abbrev cX8_count : ByteArray := prog_1_method_24_code
def yX8_count : MethodName := ⟨RX8, "count", "(I)I"⟩
abbrev cX8_gangAt : ByteArray := prog_1_method_25_code
def yX8_gangAt : MethodName := ⟨RX8, "gangAt", "(J)LSlateQuarry$Gang;"⟩
abbrev cX8_sheetAt : ByteArray := prog_1_method_26_code
def yX8_sheetAt : MethodName := ⟨RX8, "sheetAt", "(I)LSlateQuarry$Sheet;"⟩
abbrev cX8_letToBest : ByteArray := prog_1_method_27_code
def yX8_letToBest : MethodName := ⟨RX8, "letToBest", "(I)Z"⟩
abbrev cX8_mayTake : ByteArray := prog_1_method_28_code
def yX8_mayTake : MethodName := ⟨RX8, "mayTake", "(LSlateQuarry$Gang;I)Z"⟩
abbrev cX8_isBetter : ByteArray := prog_1_method_29_code
def yX8_isBetter : MethodName := ⟨RX8, "isBetter", "(LSlateQuarry$Gang;LSlateQuarry$Gang;I)Z"⟩
abbrev cX8_workBlock : ByteArray := prog_1_method_30_code
def yX8_workBlock : MethodName := ⟨RX8, "workBlock", "(LSlateQuarry$Gang;IJ)I"⟩
abbrev cX8_haulBlock : ByteArray := prog_1_method_31_code
def yX8_haulBlock : MethodName := ⟨RX8, "haulBlock", "(LSlateQuarry$Sheet;J)I"⟩
def RX9 : String := "SlateQuarryModel"
def TX9 : u_T := fun k => match k with
  | 0 => ("SlateQuarryModel", "tape", "[I", true)
  | 1 => ("SlateQuarryModel", "taped", "I", false)
  | 2 => ("SlateQuarryModel", "at", "I", false)
  | 3 => ("SlateQuarryModel", "from", "I", false)
  | 4 => ("SlateQuarryModel", "sort", "I", false)
  | 5 => ("SlateQuarryModel", "value", "I", false)
  | 6 => ("SlateQuarryModel", "fault", "I", false)
  | 7 => ("SlateQuarryModel", "wrongAt", "I", false)
  | 8 => ("SlateQuarryModel", "laws", "[I", true)
  | 9 => ("SlateQuarryModel", "pounds", "I", false)
  | 10 => ("SlateQuarryModel", "poundTo", "[I", true)
  | 11 => ("SlateQuarryModel", "poundBy", "[I", true)
  | 12 => ("SlateQuarryModel", "dLaws", "[I", true)
  | 13 => ("SlateQuarryModel", "dPounds", "I", false)
  | 14 => ("SlateQuarryModel", "dTo", "[I", true)
  | 15 => ("SlateQuarryModel", "dBy", "[I", true)
  | 16 => ("SlateQuarryModel", "goodness", "[I", true)
  | 17 => ("SlateQuarryModel", "steps", "[I", true)
  | 18 => ("SlateQuarryModel", "isLoose", "[Z", true)
  | 19 => ("SlateQuarryModel", "holder", "[I", true)
  | 20 => ("SlateQuarryModel", "gangs", "I", false)
  | 21 => ("SlateQuarryModel", "men", "[I", true)
  | 22 => ("SlateQuarryModel", "account", "[I", true)
  | 23 => ("SlateQuarryModel", "lets", "[I", true)
  | 24 => ("SlateQuarryModel", "place", "[I", true)
  | 25 => ("SlateQuarryModel", "pay", "[I", true)
  | 26 => ("SlateQuarryModel", "blocks", "[I", true)
  | 27 => ("SlateQuarryModel", "hasTool", "[Z", true)
  | 28 => ("SlateQuarryModel", "asks", "[I", true)
  | 29 => ("SlateQuarryModel", "isLet", "Z", false)
  | 30 => ("SlateQuarryModel", "month", "I", false)
  | 31 => ("SlateQuarryModel", "club", "I", false)
  | 32 => ("SlateQuarryModel", "sizes", "I", false)
  | 33 => ("SlateQuarryModel", "lengths", "[I", true)
  | 34 => ("SlateQuarryModel", "prices", "[I", true)
  | 35 => ("SlateQuarryModel", "came", "[I", true)
  | 36 => ("SlateQuarryModel", "worked", "I", false)
  | 37 => ("SlateQuarryModel", "rubbish", "I", false)
  | 38 => ("SlateQuarryModel", "best", "[I", true)
  | 39 => ("SlateQuarryModel", "lanes", "[I", true)
  | 40 => ("SlateQuarryModel", "sheetSizes", "[I", true)
  | _ => ("SlateQuarryModel", "cells", "[J", true)
def tyX9 : Nat → FieldType := fun k => match k with
  | 0 => .array .int
  | 1 => .int
  | 2 => .int
  | 3 => .int
  | 4 => .int
  | 5 => .int
  | 6 => .int
  | 7 => .int
  | 8 => .array .int
  | 9 => .int
  | 10 => .array .int
  | 11 => .array .int
  | 12 => .array .int
  | 13 => .int
  | 14 => .array .int
  | 15 => .array .int
  | 16 => .array .int
  | 17 => .array .int
  | 18 => .array .boolean
  | 19 => .array .int
  | 20 => .int
  | 21 => .array .int
  | 22 => .array .int
  | 23 => .array .int
  | 24 => .array .int
  | 25 => .array .int
  | 26 => .array .int
  | 27 => .array .boolean
  | 28 => .array .int
  | 29 => .boolean
  | 30 => .int
  | 31 => .int
  | 32 => .int
  | 33 => .array .int
  | 34 => .array .int
  | 35 => .array .int
  | 36 => .int
  | 37 => .int
  | 38 => .array .int
  | 39 => .array .int
  | 40 => .array .int
  | _ => .array .long
abbrev wsX90 : List Cond := u_ws RX9 TX9 42
theorem nmX9 : ∀ a, a < 42 → ∀ b, b < 42 → a ≠ b → (TX9 a).2.1 ≠ (TX9 b).2.1 := by decide +kernel
theorem tyX9_ok : ∀ k, k < 42 → parseFieldDescriptor (TX9 k).2.2.1 = some (tyX9 k) := by decide +kernel
abbrev cX9_init : ByteArray := prog_11_method_1_code
def yX9_init : MethodName := ⟨RX9, "<init>", "()V"⟩
abbrev cX9_in : ByteArray := prog_11_method_3_code
def yX9_in : MethodName := ⟨RX9, "in", "(JJJ)Z"⟩
abbrev cX9_feed : ByteArray := prog_11_method_4_code
def yX9_feed : MethodName := ⟨RX9, "feed", "(J)I"⟩
abbrev cX9_end : ByteArray := prog_11_method_5_code
def yX9_end : MethodName := ⟨RX9, "end", "(I)I"⟩
abbrev cX9_fails : ByteArray := prog_11_method_6_code
def yX9_fails : MethodName := ⟨RX9, "fails", "(II)V"⟩
abbrev cX9_look : ByteArray := prog_11_method_7_code
def yX9_look : MethodName := ⟨RX9, "look", "(I)I"⟩
abbrev cX9_isName : ByteArray := prog_11_method_8_code
def yX9_isName : MethodName := ⟨RX9, "isName", "(IIIII)Z"⟩
abbrev cX9_nameNow : ByteArray := prog_11_method_9_code
def yX9_nameNow : MethodName := ⟨RX9, "nameNow", "()I"⟩
abbrev cX9_next : ByteArray := prog_11_method_10_code
def yX9_next : MethodName := ⟨RX9, "next", "()V"⟩
abbrev cX9_wants : ByteArray := prog_11_method_11_code
def yX9_wants : MethodName := ⟨RX9, "wants", "(II)V"⟩
abbrev cX9_taken : ByteArray := prog_11_method_12_code
def yX9_taken : MethodName := ⟨RX9, "taken", "()I"⟩
abbrev cX9_readLaw : ByteArray := prog_11_method_13_code
def yX9_readLaw : MethodName := ⟨RX9, "readLaw", "()V"⟩
abbrev cX9_lawMany : ByteArray := prog_11_method_14_code
def yX9_lawMany : MethodName := ⟨RX9, "lawMany", "()I"⟩
abbrev cX9_laws : ByteArray := prog_11_method_15_code
def yX9_laws : MethodName := ⟨RX9, "laws", "()I"⟩
abbrev cX9_fault : ByteArray := prog_11_method_16_code
def yX9_fault : MethodName := ⟨RX9, "fault", "()I"⟩
abbrev cX9_poundage : ByteArray := prog_11_method_17_code
def yX9_poundage : MethodName := ⟨RX9, "poundage", "(I)I"⟩
abbrev cX9_lawOf : ByteArray := prog_11_method_18_code
def yX9_lawOf : MethodName := ⟨RX9, "lawOf", "(I)I"⟩
abbrev cX9_law : ByteArray := prog_11_method_19_code
def yX9_law : MethodName := ⟨RX9, "law", "(I)I"⟩
abbrev cX9_isFace : ByteArray := prog_11_method_20_code
def yX9_isFace : MethodName := ⟨RX9, "isFace", "(II)Z"⟩
abbrev cX9_isGang : ByteArray := prog_11_method_21_code
def yX9_isGang : MethodName := ⟨RX9, "isGang", "(I)Z"⟩
abbrev cX9_rock : ByteArray := prog_11_method_22_code
def yX9_rock : MethodName := ⟨RX9, "rock", "(III)I"⟩
abbrev cX9_mayBeWorked : ByteArray := prog_11_method_23_code
def yX9_mayBeWorked : MethodName := ⟨RX9, "mayBeWorked", "(I)Z"⟩
abbrev cX9_face : ByteArray := prog_11_method_24_code
def yX9_face : MethodName := ⟨RX9, "face", "(III)I"⟩
abbrev cX9_clear : ByteArray := prog_11_method_25_code
def yX9_clear : MethodName := ⟨RX9, "clear", "(III)I"⟩
abbrev cX9_gang : ByteArray := prog_11_method_26_code
def yX9_gang : MethodName := ⟨RX9, "gang", "(I)I"⟩
abbrev cX9_told : ByteArray := prog_11_method_27_code
def yX9_told : MethodName := ⟨RX9, "told", "(II)I"⟩
abbrev cX9_move : ByteArray := prog_11_method_28_code
def yX9_move : MethodName := ⟨RX9, "move", "(III)I"⟩
abbrev cX9_askMany : ByteArray := prog_11_method_29_code
def yX9_askMany : MethodName := ⟨RX9, "askMany", "()I"⟩
abbrev cX9_ask : ByteArray := prog_11_method_30_code
def yX9_ask : MethodName := ⟨RX9, "ask", "(IIII)I"⟩
abbrev cX9_let : ByteArray := prog_11_method_31_code
def yX9_let : MethodName := ⟨RX9, "let", "()I"⟩
abbrev cX9_month : ByteArray := prog_11_method_32_code
def yX9_month : MethodName := ⟨RX9, "month", "()I"⟩
abbrev cX9_size : ByteArray := prog_11_method_33_code
def yX9_size : MethodName := ⟨RX9, "size", "(II)I"⟩
abbrev cX9_isBlock : ByteArray := prog_11_method_34_code
def yX9_isBlock : MethodName := ⟨RX9, "isBlock", "(JJ)Z"⟩
abbrev cX9_fits : ByteArray := prog_11_method_35_code
def yX9_fits : MethodName := ⟨RX9, "fits", "(IIIJ)Z"⟩
abbrev cX9_mostOf : ByteArray := prog_11_method_36_code
def yX9_mostOf : MethodName := ⟨RX9, "mostOf", "(IJ)I"⟩
abbrev cX9_choice : ByteArray := prog_11_method_37_code
def yX9_choice : MethodName := ⟨RX9, "choice", "(IIJ)I"⟩
abbrev cX9_most : ByteArray := prog_11_method_38_code
def yX9_most : MethodName := ⟨RX9, "most", "(IJ)I"⟩
abbrev cX9_split : ByteArray := prog_11_method_39_code
def yX9_split : MethodName := ⟨RX9, "split", "(IJI)I"⟩
abbrev cX9_mayWork : ByteArray := prog_11_method_40_code
def yX9_mayWork : MethodName := ⟨RX9, "mayWork", "(I)Z"⟩
abbrev cX9_works : ByteArray := prog_11_method_41_code
def yX9_works : MethodName := ⟨RX9, "works", "(IIJ)I"⟩
abbrev cX9_work : ByteArray := prog_11_method_42_code
def yX9_work : MethodName := ⟨RX9, "work", "(IIJ)I"⟩
abbrev cX9_slates : ByteArray := prog_11_method_43_code
def yX9_slates : MethodName := ⟨RX9, "slates", "(I)I"⟩
abbrev cX9_isSheet : ByteArray := prog_11_method_44_code
def yX9_isSheet : MethodName := ⟨RX9, "isSheet", "(II)Z"⟩
abbrev cX9_sheet : ByteArray := prog_11_method_45_code
def yX9_sheet : MethodName := ⟨RX9, "sheet", "(III)I"⟩
abbrev cX9_lay : ByteArray := prog_11_method_46_code
def yX9_lay : MethodName := ⟨RX9, "lay", "(IIJ)I"⟩
abbrev cX9_haul : ByteArray := prog_11_method_47_code
def yX9_haul : MethodName := ⟨RX9, "haul", "(IIII)I"⟩
abbrev cX9_count : ByteArray := prog_11_method_48_code
def yX9_count : MethodName := ⟨RX9, "count", "(I)I"⟩
def RJ6 : String := "java/lang/Integer"
def TJ6 : u_T := fun k => match k with
  | _ => ("", "", "", false)
def tyJ6 : Nat → FieldType := fun k => match k with
  | _ => .int
abbrev wsJ60 : List Cond := u_ws RJ6 TJ6 0
theorem nmJ6 : ∀ a, a < 0 → ∀ b, b < 0 → a ≠ b → (TJ6 a).2.1 ≠ (TJ6 b).2.1 := by decide +kernel
theorem tyJ6_ok : ∀ k, k < 0 → parseFieldDescriptor (TJ6 k).2.2.1 = some (tyJ6 k) := by decide +kernel
abbrev cJ6_compare_7cf53 : ByteArray := prog_12_method_40_code
def yJ6_compare_7cf53 : MethodName := ⟨RJ6, "compare", "(II)I"⟩
def RJ9 : String := "java/lang/Math"
def TJ9 : u_T := fun k => match k with
  | _ => ("", "", "", false)
def tyJ9 : Nat → FieldType := fun k => match k with
  | _ => .int
abbrev wsJ90 : List Cond := u_ws RJ9 TJ9 0
theorem nmJ9 : ∀ a, a < 0 → ∀ b, b < 0 → a ≠ b → (TJ9 a).2.1 ≠ (TJ9 b).2.1 := by decide +kernel
theorem tyJ9_ok : ∀ k, k < 0 → parseFieldDescriptor (TJ9 k).2.2.1 = some (tyJ9 k) := by decide +kernel
abbrev cJ9_floorDiv_f86c9 : ByteArray := prog_13_method_49_code
def yJ9_floorDiv_f86c9 : MethodName := ⟨RJ9, "floorDiv", "(JJ)J"⟩
abbrev cJ9_max_7cf53 : ByteArray := prog_13_method_65_code
def yJ9_max_7cf53 : MethodName := ⟨RJ9, "max", "(II)I"⟩
def RJ0 : String := "java/lang/String"
def TJ0 : u_T := fun k => match k with
  | _ => ("", "", "", false)
def tyJ0 : Nat → FieldType := fun k => match k with
  | _ => .int
abbrev wsJ00 : List Cond := u_ws RJ0 TJ0 0
theorem nmJ0 : ∀ a, a < 0 → ∀ b, b < 0 → a ≠ b → (TJ0 a).2.1 ≠ (TJ0 b).2.1 := by decide +kernel
theorem tyJ0_ok : ∀ k, k < 0 → parseFieldDescriptor (TJ0 k).2.2.1 = some (tyJ0 k) := by decide +kernel
abbrev cJ0_length_8abf5 : ByteArray := prog_14_method_54_code
def yJ0_length_8abf5 : MethodName := ⟨RJ0, "length", "()I"⟩
abbrev cJ0_charAt_5068e : ByteArray := prog_14_method_56_code
def yJ0_charAt_5068e : MethodName := ⟨RJ0, "charAt", "(I)C"⟩
abbrev cJ0_coder_7d493 : ByteArray := prog_14_method_152_code
def yJ0_coder_7d493 : MethodName := ⟨RJ0, "coder", "()B"⟩
abbrev cJ0_isLatin1_aae02 : ByteArray := prog_14_method_154_code
def yJ0_isLatin1_aae02 : MethodName := ⟨RJ0, "isLatin1", "()Z"⟩
abbrev cJ0_checkIndex_df160 : ByteArray := prog_14_method_155_code
def yJ0_checkIndex_df160 : MethodName := ⟨RJ0, "checkIndex", "(II)V"⟩
def RJ1 : String := "java/lang/StringLatin1"
def TJ1 : u_T := fun k => match k with
  | _ => ("", "", "", false)
def tyJ1 : Nat → FieldType := fun k => match k with
  | _ => .int
abbrev wsJ10 : List Cond := u_ws RJ1 TJ1 0
theorem nmJ1 : ∀ a, a < 0 → ∀ b, b < 0 → a ≠ b → (TJ1 a).2.1 ≠ (TJ1 b).2.1 := by decide +kernel
theorem tyJ1_ok : ∀ k, k < 0 → parseFieldDescriptor (TJ1 k).2.2.1 = some (tyJ1 k) := by decide +kernel
abbrev cJ1_charAt_3b067 : ByteArray := prog_15_method_2_code
def yJ1_charAt_3b067 : MethodName := ⟨RJ1, "charAt", "([BI)C"⟩
def RJ2 : String := "java/lang/StringUTF16"
def TJ2 : u_T := fun k => match k with
  | _ => ("", "", "", false)
def tyJ2 : Nat → FieldType := fun k => match k with
  | _ => .int
abbrev wsJ20 : List Cond := u_ws RJ2 TJ2 0
theorem nmJ2 : ∀ a, a < 0 → ∀ b, b < 0 → a ≠ b → (TJ2 a).2.1 ≠ (TJ2 b).2.1 := by decide +kernel
theorem tyJ2_ok : ∀ k, k < 0 → parseFieldDescriptor (TJ2 k).2.2.1 = some (tyJ2 k) := by decide +kernel
abbrev cJ2_getChar_3b067 : ByteArray := prog_16_method_5_code
def yJ2_getChar_3b067 : MethodName := ⟨RJ2, "getChar", "([BI)C"⟩
abbrev cJ2_length_9d52b : ByteArray := prog_16_method_6_code
def yJ2_length_9d52b : MethodName := ⟨RJ2, "length", "([B)I"⟩
abbrev cJ2_charAt_3b067 : ByteArray := prog_16_method_83_code
def yJ2_charAt_3b067 : MethodName := ⟨RJ2, "charAt", "([BI)C"⟩
abbrev cJ2_checkIndex_2214a : ByteArray := prog_16_method_91_code
def yJ2_checkIndex_2214a : MethodName := ⟨RJ2, "checkIndex", "(I[B)V"⟩
def RJ7 : String := "java/util/Arrays"
def TJ7 : u_T := fun k => match k with
  | _ => ("", "", "", false)
def tyJ7 : Nat → FieldType := fun k => match k with
  | _ => .int
abbrev wsJ70 : List Cond := u_ws RJ7 TJ7 0
theorem nmJ7 : ∀ a, a < 0 → ∀ b, b < 0 → a ≠ b → (TJ7 a).2.1 ≠ (TJ7 b).2.1 := by decide +kernel
theorem tyJ7_ok : ∀ k, k < 0 → parseFieldDescriptor (TJ7 k).2.2.1 = some (tyJ7 k) := by decide +kernel
abbrev cJ7_fill_d0a16 : ByteArray := prog_17_method_101_code
def yJ7_fill_d0a16 : MethodName := ⟨RJ7, "fill", "([JJ)V"⟩
abbrev cJ7_fill_53178 : ByteArray := prog_17_method_103_code
def yJ7_fill_53178 : MethodName := ⟨RJ7, "fill", "([II)V"⟩
def RJ3 : String := "jdk/internal/util/Preconditions"
def TJ3 : u_T := fun k => match k with
  | _ => ("", "", "", false)
def tyJ3 : Nat → FieldType := fun k => match k with
  | _ => .int
abbrev wsJ30 : List Cond := u_ws RJ3 TJ3 0
theorem nmJ3 : ∀ a, a < 0 → ∀ b, b < 0 → a ≠ b → (TJ3 a).2.1 ≠ (TJ3 b).2.1 := by decide +kernel
theorem tyJ3_ok : ∀ k, k < 0 → parseFieldDescriptor (TJ3 k).2.2.1 = some (tyJ3 k) := by decide +kernel
abbrev cJ3_checkIndex_8e157 : ByteArray := prog_18_method_11_code
def yJ3_checkIndex_8e157 : MethodName := ⟨RJ3, "checkIndex", "(IILjava/util/function/BiFunction;)I"⟩
def RL : String := "SlateQuarryLaw"
abbrev cL_law : ByteArray := code
def yL_law : MethodName := ⟨RL, "law", "([I)Z"⟩
end
section
/-! the tables of the claim for the abstract machine (printed by wip/gen/gen03.py) -/
/-- heap layout: what lies at each place -/
def q_SH (i : Nat) : Option (Nat ⊕ (Nat × Nat)) := cond (Nat.ble i 88) (cond (Nat.ble i 53) (cond (Nat.ble i 10) (cond (Nat.ble i 4) (cond (Nat.ble i 1) (cond (Nat.ble i 0) (some (.inl 8)) (some (.inl 3))) (cond (Nat.ble i 2) (some (.inl 6)) (cond (Nat.ble i 3) (some (.inr (2, 200))) (some (.inl 2))))) (cond (Nat.ble i 6) (cond (Nat.ble i 5) (some (.inr (0, 4))) (some (.inr (1, 4)))) (cond (Nat.ble i 8) (some (.inr (0, 4))) (cond (Nat.ble i 9) (some (.inl 2)) (some (.inr (0, 4))))))) (cond (Nat.ble i 45) (cond (Nat.ble i 13) (cond (Nat.ble i 11) (some (.inr (1, 4))) (some (.inr (0, 4)))) (cond (Nat.ble i 14) (some (.inl 0)) (cond (Nat.ble i 15) (some (.inr (4, 30))) (some (.inl 7))))) (cond (Nat.ble i 50) (cond (Nat.ble i 46) (some (.inr (5, 8))) (cond (Nat.ble i 47) (some (.inl 4)) (some (.inr (0, 8))))) (cond (Nat.ble i 51) (some (.inr (0, 41))) (cond (Nat.ble i 52) (some (.inr (0, 40))) (some (.inr (6, 4)))))))) (cond (Nat.ble i 63) (cond (Nat.ble i 58) (cond (Nat.ble i 55) (cond (Nat.ble i 54) (some (.inl 5)) (some (.inr (3, 60)))) (cond (Nat.ble i 56) (some (.inl 5)) (cond (Nat.ble i 57) (some (.inr (3, 60))) (some (.inl 5))))) (cond (Nat.ble i 60) (cond (Nat.ble i 59) (some (.inr (3, 60))) (some (.inl 5))) (cond (Nat.ble i 61) (some (.inr (3, 60))) (cond (Nat.ble i 62) (some (.inl 9)) (some (.inr (0, 200))))))) (cond (Nat.ble i 79) (cond (Nat.ble i 71) (cond (Nat.ble i 69) (some (.inr (0, 4))) (some (.inr (0, 30)))) (cond (Nat.ble i 72) (some (.inr (1, 30))) (cond (Nat.ble i 73) (some (.inr (0, 30))) (some (.inr (0, 8)))))) (cond (Nat.ble i 84) (cond (Nat.ble i 80) (some (.inr (1, 8))) (cond (Nat.ble i 81) (some (.inr (0, 240))) (some (.inr (0, 8))))) (cond (Nat.ble i 85) (some (.inr (0, 41))) (cond (Nat.ble i 87) (some (.inr (0, 4))) (some (.inr (3, 240))))))))) (cond (Nat.ble i 104) (cond (Nat.beq (i % 2) 1) (some (.inl 1)) (some (.inr (0, 30)))) none)
def q_nf (ci : Nat) : Nat := [1, 8, 6, 6, 9, 3, 2, 4, 15, 42].getD ci 0
def q_cl : List vw_C := [(RX0, TX0, 1), (RX1, TX1, 8), (RX2, TX2, 6), (RX3, TX3, 6), (RX4, TX4, 9), (RX5, TX5, 3), (RX6, TX6, 2), (RX7, TX7, 4), (RX8, TX8, 15), (RX9, TX9, 42)]
def q_fty (ci : Nat) : Nat → FieldType := [tyX0, tyX1, tyX2, tyX3, tyX4, tyX5, tyX6, tyX7, tyX8, tyX9].getD ci (fun _ => .int)
def q_tl : List FieldType := [.int, .boolean, .byte, .long, .object "SlateQuarry$Wall", .object "SlateQuarry$Gang", .object "SlateQuarry$Sheet"]
def q_ety (t : Nat) : FieldType := q_tl.getD t .int
def q_os (o : Nat) : String := [RX0, RX1, RX2, RX3, RX4, RX5, RX6, RX7, RX8, RX9, RJ6, RJ9, RJ0, RJ1, RJ2, RJ7, RJ3, RL].getD o ""
def q_yn (y : Nat) : MethodName := cond (Nat.ble y 80) (cond (Nat.ble y 39) (cond (Nat.ble y 19) (cond (Nat.ble y 9) (cond (Nat.ble y 4) (cond (Nat.ble y 1) (cond (Nat.ble y 0) (yX0_init) (yX0_isGoodness)) (cond (Nat.ble y 2) (yX0_indexOf) (cond (Nat.ble y 3) (yX0_wallAt) (yX0_mayBeWorked)))) (cond (Nat.ble y 6) (cond (Nat.ble y 5) (yX0_isLoose) (yX0_loosenAbove)) (cond (Nat.ble y 7) (yX0_freeAll) (cond (Nat.ble y 8) (yX0_heldWalls) (yX0_looseWalls))))) (cond (Nat.ble y 14) (cond (Nat.ble y 11) (cond (Nat.ble y 10) (yX1_init) (yX1_hasWall)) (cond (Nat.ble y 12) (yX1_askFor) (cond (Nat.ble y 13) (yX1_setAsk) (yX1_take)))) (cond (Nat.ble y 16) (cond (Nat.ble y 15) (yX1_endMonth) (yX1_shareOf)) (cond (Nat.ble y 17) (yX1_takePay) (cond (Nat.ble y 18) (yX2_init) (yX2_nameOf)))))) (cond (Nat.ble y 29) (cond (Nat.ble y 24) (cond (Nat.ble y 21) (cond (Nat.ble y 20) (yX2_forget) (yX2_isNumberLaw)) (cond (Nat.ble y 22) (yX2_mayTell) (cond (Nat.ble y 23) (yX2_isInBounds) (yX2_isPoundage)))) (cond (Nat.ble y 26) (cond (Nat.ble y 25) (yX2_isAbovePounds) (yX2_tell)) (cond (Nat.ble y 27) (yX2_numberOf) (cond (Nat.ble y 28) (yX2_poundageOf) (yX2_letsAsk))))) (cond (Nat.ble y 34) (cond (Nat.ble y 31) (cond (Nat.ble y 30) (yX3_init) (yX3_read)) (cond (Nat.ble y 32) (yX3_readLaw) (cond (Nat.ble y 33) (yX3_require) (yX3_readToken)))) (cond (Nat.ble y 36) (cond (Nat.ble y 35) (yX3_skipBlanks) (yX3_takeName)) (cond (Nat.ble y 37) (yX3_isTakenName) (cond (Nat.ble y 38) (yX3_takeNumber) (yX3_isLetter))))))) (cond (Nat.ble y 59) (cond (Nat.ble y 49) (cond (Nat.ble y 44) (cond (Nat.ble y 41) (cond (Nat.ble y 40) (yX3_isFigure) (yX4_init)) (cond (Nat.ble y 42) (yX4_isSlate) (cond (Nat.ble y 43) (yX4_isBlock) (yX4_addSize)))) (cond (Nat.ble y 46) (cond (Nat.ble y 45) (yX4_hasSize) (yX4_slatesOf)) (cond (Nat.ble y 47) (yX4_mostOf) (cond (Nat.ble y 48) (yX4_mostWith) (yX4_cut))))) (cond (Nat.ble y 54) (cond (Nat.ble y 51) (cond (Nat.ble y 50) (yX4_pieceFor) (yX4_pieceAt)) (cond (Nat.ble y 52) (yX4_countSlates) (cond (Nat.ble y 53) (yX5_init) (yX5_isLane)))) (cond (Nat.ble y 56) (cond (Nat.ble y 55) (yX5_isNothing) (yX5_renew)) (cond (Nat.ble y 57) (yX5_hasCell) (cond (Nat.ble y 58) (yX5_setCell) (yX5_cutToLane)))))) (cond (Nat.ble y 69) (cond (Nat.ble y 64) (cond (Nat.ble y 61) (cond (Nat.ble y 60) (yX5_cellAt) (yX6_init)) (cond (Nat.ble y 62) (yX6_append) (cond (Nat.ble y 63) (yX6_keepFirst) (yX6_empty)))) (cond (Nat.ble y 66) (cond (Nat.ble y 65) (yX6_byteAt) (yX7_init)) (cond (Nat.ble y 67) (yX8_init) (cond (Nat.ble y 68) (yX8_feed) (yX8_end))))) (cond (Nat.ble y 74) (cond (Nat.ble y 71) (cond (Nat.ble y 70) (yX8_laws) (yX8_fault)) (cond (Nat.ble y 72) (yX8_law) (cond (Nat.ble y 73) (yX8_rock) (yX8_face)))) (cond (Nat.ble y 77) (cond (Nat.ble y 75) (yX8_clear) (cond (Nat.ble y 76) (yX8_gang) (yX8_told))) (cond (Nat.ble y 78) (yX8_move) (cond (Nat.ble y 79) (yX8_ask) (yX8_let)))))))) (cond (Nat.ble y 120) (cond (Nat.ble y 100) (cond (Nat.ble y 90) (cond (Nat.ble y 85) (cond (Nat.ble y 82) (cond (Nat.ble y 81) (yX8_month) (yX8_size)) (cond (Nat.ble y 83) (yX8_most) (cond (Nat.ble y 84) (yX8_split) (yX8_work)))) (cond (Nat.ble y 87) (cond (Nat.ble y 86) (yX8_slates) (yX8_sheet)) (cond (Nat.ble y 88) (yX8_lay) (cond (Nat.ble y 89) (yX8_haul) (yX8_count))))) (cond (Nat.ble y 95) (cond (Nat.ble y 92) (cond (Nat.ble y 91) (yX8_gangAt) (yX8_sheetAt)) (cond (Nat.ble y 93) (yX8_letToBest) (cond (Nat.ble y 94) (yX8_mayTake) (yX8_isBetter)))) (cond (Nat.ble y 97) (cond (Nat.ble y 96) (yX8_workBlock) (yX8_haulBlock)) (cond (Nat.ble y 98) (yX9_init) (cond (Nat.ble y 99) (yX9_in) (yX9_feed)))))) (cond (Nat.ble y 110) (cond (Nat.ble y 105) (cond (Nat.ble y 102) (cond (Nat.ble y 101) (yX9_end) (yX9_fails)) (cond (Nat.ble y 103) (yX9_look) (cond (Nat.ble y 104) (yX9_isName) (yX9_nameNow)))) (cond (Nat.ble y 107) (cond (Nat.ble y 106) (yX9_next) (yX9_wants)) (cond (Nat.ble y 108) (yX9_taken) (cond (Nat.ble y 109) (yX9_readLaw) (yX9_lawMany))))) (cond (Nat.ble y 115) (cond (Nat.ble y 112) (cond (Nat.ble y 111) (yX9_laws) (yX9_fault)) (cond (Nat.ble y 113) (yX9_poundage) (cond (Nat.ble y 114) (yX9_lawOf) (yX9_law)))) (cond (Nat.ble y 117) (cond (Nat.ble y 116) (yX9_isFace) (yX9_isGang)) (cond (Nat.ble y 118) (yX9_rock) (cond (Nat.ble y 119) (yX9_mayBeWorked) (yX9_face))))))) (cond (Nat.ble y 140) (cond (Nat.ble y 130) (cond (Nat.ble y 125) (cond (Nat.ble y 122) (cond (Nat.ble y 121) (yX9_clear) (yX9_gang)) (cond (Nat.ble y 123) (yX9_told) (cond (Nat.ble y 124) (yX9_move) (yX9_askMany)))) (cond (Nat.ble y 127) (cond (Nat.ble y 126) (yX9_ask) (yX9_let)) (cond (Nat.ble y 128) (yX9_month) (cond (Nat.ble y 129) (yX9_size) (yX9_isBlock))))) (cond (Nat.ble y 135) (cond (Nat.ble y 132) (cond (Nat.ble y 131) (yX9_fits) (yX9_mostOf)) (cond (Nat.ble y 133) (yX9_choice) (cond (Nat.ble y 134) (yX9_most) (yX9_split)))) (cond (Nat.ble y 137) (cond (Nat.ble y 136) (yX9_mayWork) (yX9_works)) (cond (Nat.ble y 138) (yX9_work) (cond (Nat.ble y 139) (yX9_slates) (yX9_isSheet)))))) (cond (Nat.ble y 150) (cond (Nat.ble y 145) (cond (Nat.ble y 142) (cond (Nat.ble y 141) (yX9_sheet) (yX9_lay)) (cond (Nat.ble y 143) (yX9_haul) (cond (Nat.ble y 144) (yX9_count) (yJ6_compare_7cf53)))) (cond (Nat.ble y 147) (cond (Nat.ble y 146) (yJ9_floorDiv_f86c9) (yJ9_max_7cf53)) (cond (Nat.ble y 148) (yJ0_length_8abf5) (cond (Nat.ble y 149) (yJ0_charAt_5068e) (yJ0_coder_7d493))))) (cond (Nat.ble y 155) (cond (Nat.ble y 152) (cond (Nat.ble y 151) (yJ0_isLatin1_aae02) (yJ0_checkIndex_df160)) (cond (Nat.ble y 153) (yJ1_charAt_3b067) (cond (Nat.ble y 154) (yJ2_getChar_3b067) (yJ2_length_9d52b)))) (cond (Nat.ble y 158) (cond (Nat.ble y 156) (yJ2_charAt_3b067) (cond (Nat.ble y 157) (yJ2_checkIndex_2214a) (yJ7_fill_d0a16))) (cond (Nat.ble y 159) (yJ7_fill_53178) (cond (Nat.ble y 160) (yJ3_checkIndex_8e157) (yL_law))))))))
def q_cb (y : Nat) : ByteArray := cond (Nat.ble y 80) (cond (Nat.ble y 39) (cond (Nat.ble y 19) (cond (Nat.ble y 9) (cond (Nat.ble y 4) (cond (Nat.ble y 1) (cond (Nat.ble y 0) (cX0_init) (cX0_isGoodness)) (cond (Nat.ble y 2) (cX0_indexOf) (cond (Nat.ble y 3) (cX0_wallAt) (cX0_mayBeWorked)))) (cond (Nat.ble y 6) (cond (Nat.ble y 5) (cX0_isLoose) (cX0_loosenAbove)) (cond (Nat.ble y 7) (cX0_freeAll) (cond (Nat.ble y 8) (cX0_heldWalls) (cX0_looseWalls))))) (cond (Nat.ble y 14) (cond (Nat.ble y 11) (cond (Nat.ble y 10) (cX1_init) (cX1_hasWall)) (cond (Nat.ble y 12) (cX1_askFor) (cond (Nat.ble y 13) (cX1_setAsk) (cX1_take)))) (cond (Nat.ble y 16) (cond (Nat.ble y 15) (cX1_endMonth) (cX1_shareOf)) (cond (Nat.ble y 17) (cX1_takePay) (cond (Nat.ble y 18) (cX2_init) (cX2_nameOf)))))) (cond (Nat.ble y 29) (cond (Nat.ble y 24) (cond (Nat.ble y 21) (cond (Nat.ble y 20) (cX2_forget) (cX2_isNumberLaw)) (cond (Nat.ble y 22) (cX2_mayTell) (cond (Nat.ble y 23) (cX2_isInBounds) (cX2_isPoundage)))) (cond (Nat.ble y 26) (cond (Nat.ble y 25) (cX2_isAbovePounds) (cX2_tell)) (cond (Nat.ble y 27) (cX2_numberOf) (cond (Nat.ble y 28) (cX2_poundageOf) (cX2_letsAsk))))) (cond (Nat.ble y 34) (cond (Nat.ble y 31) (cond (Nat.ble y 30) (cX3_init) (cX3_read)) (cond (Nat.ble y 32) (cX3_readLaw) (cond (Nat.ble y 33) (cX3_require) (cX3_readToken)))) (cond (Nat.ble y 36) (cond (Nat.ble y 35) (cX3_skipBlanks) (cX3_takeName)) (cond (Nat.ble y 37) (cX3_isTakenName) (cond (Nat.ble y 38) (cX3_takeNumber) (cX3_isLetter))))))) (cond (Nat.ble y 59) (cond (Nat.ble y 49) (cond (Nat.ble y 44) (cond (Nat.ble y 41) (cond (Nat.ble y 40) (cX3_isFigure) (cX4_init)) (cond (Nat.ble y 42) (cX4_isSlate) (cond (Nat.ble y 43) (cX4_isBlock) (cX4_addSize)))) (cond (Nat.ble y 46) (cond (Nat.ble y 45) (cX4_hasSize) (cX4_slatesOf)) (cond (Nat.ble y 47) (cX4_mostOf) (cond (Nat.ble y 48) (cX4_mostWith) (cX4_cut))))) (cond (Nat.ble y 54) (cond (Nat.ble y 51) (cond (Nat.ble y 50) (cX4_pieceFor) (cX4_pieceAt)) (cond (Nat.ble y 52) (cX4_countSlates) (cond (Nat.ble y 53) (cX5_init) (cX5_isLane)))) (cond (Nat.ble y 56) (cond (Nat.ble y 55) (cX5_isNothing) (cX5_renew)) (cond (Nat.ble y 57) (cX5_hasCell) (cond (Nat.ble y 58) (cX5_setCell) (cX5_cutToLane)))))) (cond (Nat.ble y 69) (cond (Nat.ble y 64) (cond (Nat.ble y 61) (cond (Nat.ble y 60) (cX5_cellAt) (cX6_init)) (cond (Nat.ble y 62) (cX6_append) (cond (Nat.ble y 63) (cX6_keepFirst) (cX6_empty)))) (cond (Nat.ble y 66) (cond (Nat.ble y 65) (cX6_byteAt) (cX7_init)) (cond (Nat.ble y 67) (cX8_init) (cond (Nat.ble y 68) (cX8_feed) (cX8_end))))) (cond (Nat.ble y 74) (cond (Nat.ble y 71) (cond (Nat.ble y 70) (cX8_laws) (cX8_fault)) (cond (Nat.ble y 72) (cX8_law) (cond (Nat.ble y 73) (cX8_rock) (cX8_face)))) (cond (Nat.ble y 77) (cond (Nat.ble y 75) (cX8_clear) (cond (Nat.ble y 76) (cX8_gang) (cX8_told))) (cond (Nat.ble y 78) (cX8_move) (cond (Nat.ble y 79) (cX8_ask) (cX8_let)))))))) (cond (Nat.ble y 120) (cond (Nat.ble y 100) (cond (Nat.ble y 90) (cond (Nat.ble y 85) (cond (Nat.ble y 82) (cond (Nat.ble y 81) (cX8_month) (cX8_size)) (cond (Nat.ble y 83) (cX8_most) (cond (Nat.ble y 84) (cX8_split) (cX8_work)))) (cond (Nat.ble y 87) (cond (Nat.ble y 86) (cX8_slates) (cX8_sheet)) (cond (Nat.ble y 88) (cX8_lay) (cond (Nat.ble y 89) (cX8_haul) (cX8_count))))) (cond (Nat.ble y 95) (cond (Nat.ble y 92) (cond (Nat.ble y 91) (cX8_gangAt) (cX8_sheetAt)) (cond (Nat.ble y 93) (cX8_letToBest) (cond (Nat.ble y 94) (cX8_mayTake) (cX8_isBetter)))) (cond (Nat.ble y 97) (cond (Nat.ble y 96) (cX8_workBlock) (cX8_haulBlock)) (cond (Nat.ble y 98) (cX9_init) (cond (Nat.ble y 99) (cX9_in) (cX9_feed)))))) (cond (Nat.ble y 110) (cond (Nat.ble y 105) (cond (Nat.ble y 102) (cond (Nat.ble y 101) (cX9_end) (cX9_fails)) (cond (Nat.ble y 103) (cX9_look) (cond (Nat.ble y 104) (cX9_isName) (cX9_nameNow)))) (cond (Nat.ble y 107) (cond (Nat.ble y 106) (cX9_next) (cX9_wants)) (cond (Nat.ble y 108) (cX9_taken) (cond (Nat.ble y 109) (cX9_readLaw) (cX9_lawMany))))) (cond (Nat.ble y 115) (cond (Nat.ble y 112) (cond (Nat.ble y 111) (cX9_laws) (cX9_fault)) (cond (Nat.ble y 113) (cX9_poundage) (cond (Nat.ble y 114) (cX9_lawOf) (cX9_law)))) (cond (Nat.ble y 117) (cond (Nat.ble y 116) (cX9_isFace) (cX9_isGang)) (cond (Nat.ble y 118) (cX9_rock) (cond (Nat.ble y 119) (cX9_mayBeWorked) (cX9_face))))))) (cond (Nat.ble y 140) (cond (Nat.ble y 130) (cond (Nat.ble y 125) (cond (Nat.ble y 122) (cond (Nat.ble y 121) (cX9_clear) (cX9_gang)) (cond (Nat.ble y 123) (cX9_told) (cond (Nat.ble y 124) (cX9_move) (cX9_askMany)))) (cond (Nat.ble y 127) (cond (Nat.ble y 126) (cX9_ask) (cX9_let)) (cond (Nat.ble y 128) (cX9_month) (cond (Nat.ble y 129) (cX9_size) (cX9_isBlock))))) (cond (Nat.ble y 135) (cond (Nat.ble y 132) (cond (Nat.ble y 131) (cX9_fits) (cX9_mostOf)) (cond (Nat.ble y 133) (cX9_choice) (cond (Nat.ble y 134) (cX9_most) (cX9_split)))) (cond (Nat.ble y 137) (cond (Nat.ble y 136) (cX9_mayWork) (cX9_works)) (cond (Nat.ble y 138) (cX9_work) (cond (Nat.ble y 139) (cX9_slates) (cX9_isSheet)))))) (cond (Nat.ble y 150) (cond (Nat.ble y 145) (cond (Nat.ble y 142) (cond (Nat.ble y 141) (cX9_sheet) (cX9_lay)) (cond (Nat.ble y 143) (cX9_haul) (cond (Nat.ble y 144) (cX9_count) (cJ6_compare_7cf53)))) (cond (Nat.ble y 147) (cond (Nat.ble y 146) (cJ9_floorDiv_f86c9) (cJ9_max_7cf53)) (cond (Nat.ble y 148) (cJ0_length_8abf5) (cond (Nat.ble y 149) (cJ0_charAt_5068e) (cJ0_coder_7d493))))) (cond (Nat.ble y 155) (cond (Nat.ble y 152) (cond (Nat.ble y 151) (cJ0_isLatin1_aae02) (cJ0_checkIndex_df160)) (cond (Nat.ble y 153) (cJ1_charAt_3b067) (cond (Nat.ble y 154) (cJ2_getChar_3b067) (cJ2_length_9d52b)))) (cond (Nat.ble y 158) (cond (Nat.ble y 156) (cJ2_charAt_3b067) (cond (Nat.ble y 157) (cJ2_checkIndex_2214a) (cJ7_fill_d0a16))) (cond (Nat.ble y 159) (cJ7_fill_53178) (cond (Nat.ble y 160) (cJ3_checkIndex_8e157) (cL_law))))))))
def q_ml (y : Nat) : Nat := cond (Nat.ble y 80) (cond (Nat.ble y 39) (cond (Nat.ble y 19) (cond (Nat.ble y 9) (cond (Nat.ble y 4) (cond (Nat.ble y 1) (cond (Nat.ble y 0) (2) (1)) (cond (Nat.ble y 2) (2) (cond (Nat.ble y 3) (2) (3)))) (cond (Nat.ble y 6) (cond (Nat.ble y 5) (3) (5)) (cond (Nat.ble y 7) (3) (cond (Nat.ble y 8) (4) (3))))) (cond (Nat.ble y 14) (cond (Nat.ble y 11) (cond (Nat.ble y 10) (2) (1)) (cond (Nat.ble y 12) (2) (cond (Nat.ble y 13) (3) (2)))) (cond (Nat.ble y 16) (cond (Nat.ble y 15) (1) (2)) (cond (Nat.ble y 17) (3) (cond (Nat.ble y 18) (1) (1)))))) (cond (Nat.ble y 29) (cond (Nat.ble y 24) (cond (Nat.ble y 21) (cond (Nat.ble y 20) (2) (1)) (cond (Nat.ble y 22) (2) (cond (Nat.ble y 23) (2) (1)))) (cond (Nat.ble y 26) (cond (Nat.ble y 25) (2) (4)) (cond (Nat.ble y 27) (2) (cond (Nat.ble y 28) (3) (2))))) (cond (Nat.ble y 34) (cond (Nat.ble y 31) (cond (Nat.ble y 30) (1) (3)) (cond (Nat.ble y 32) (5) (cond (Nat.ble y 33) (3) (2)))) (cond (Nat.ble y 36) (cond (Nat.ble y 35) (2) (2)) (cond (Nat.ble y 37) (3) (cond (Nat.ble y 38) (2) (1))))))) (cond (Nat.ble y 59) (cond (Nat.ble y 49) (cond (Nat.ble y 44) (cond (Nat.ble y 41) (cond (Nat.ble y 40) (1) (1)) (cond (Nat.ble y 42) (2) (cond (Nat.ble y 43) (4) (4)))) (cond (Nat.ble y 46) (cond (Nat.ble y 45) (2) (2)) (cond (Nat.ble y 47) (7) (cond (Nat.ble y 48) (8) (7))))) (cond (Nat.ble y 54) (cond (Nat.ble y 51) (cond (Nat.ble y 50) (6) (2)) (cond (Nat.ble y 52) (3) (cond (Nat.ble y 53) (1) (1)))) (cond (Nat.ble y 56) (cond (Nat.ble y 55) (1) (3)) (cond (Nat.ble y 57) (3) (cond (Nat.ble y 58) (4) (3)))))) (cond (Nat.ble y 69) (cond (Nat.ble y 64) (cond (Nat.ble y 61) (cond (Nat.ble y 60) (3) (1)) (cond (Nat.ble y 62) (4) (cond (Nat.ble y 63) (2) (1)))) (cond (Nat.ble y 66) (cond (Nat.ble y 65) (2) (1)) (cond (Nat.ble y 67) (2) (cond (Nat.ble y 68) (3) (3))))) (cond (Nat.ble y 74) (cond (Nat.ble y 71) (cond (Nat.ble y 70) (2) (1)) (cond (Nat.ble y 72) (3) (cond (Nat.ble y 73) (6) (6)))) (cond (Nat.ble y 77) (cond (Nat.ble y 75) (6) (cond (Nat.ble y 76) (3) (4))) (cond (Nat.ble y 78) (7) (cond (Nat.ble y 79) (7) (3)))))))) (cond (Nat.ble y 120) (cond (Nat.ble y 100) (cond (Nat.ble y 90) (cond (Nat.ble y 85) (cond (Nat.ble y 82) (cond (Nat.ble y 81) (3) (3)) (cond (Nat.ble y 83) (4) (cond (Nat.ble y 84) (5) (6)))) (cond (Nat.ble y 87) (cond (Nat.ble y 86) (2) (5)) (cond (Nat.ble y 88) (6) (cond (Nat.ble y 89) (8) (2))))) (cond (Nat.ble y 95) (cond (Nat.ble y 92) (cond (Nat.ble y 91) (3) (2)) (cond (Nat.ble y 93) (5) (cond (Nat.ble y 94) (3) (4)))) (cond (Nat.ble y 97) (cond (Nat.ble y 96) (9) (9)) (cond (Nat.ble y 98) (2) (cond (Nat.ble y 99) (6) (4)))))) (cond (Nat.ble y 110) (cond (Nat.ble y 105) (cond (Nat.ble y 102) (cond (Nat.ble y 101) (3) (3)) (cond (Nat.ble y 103) (2) (cond (Nat.ble y 104) (7) (1)))) (cond (Nat.ble y 107) (cond (Nat.ble y 106) (2) (3)) (cond (Nat.ble y 108) (2) (cond (Nat.ble y 109) (4) (3))))) (cond (Nat.ble y 115) (cond (Nat.ble y 112) (cond (Nat.ble y 111) (2) (1)) (cond (Nat.ble y 113) (3) (cond (Nat.ble y 114) (2) (2)))) (cond (Nat.ble y 117) (cond (Nat.ble y 116) (2) (2)) (cond (Nat.ble y 118) (5) (cond (Nat.ble y 119) (4) (5))))))) (cond (Nat.ble y 140) (cond (Nat.ble y 130) (cond (Nat.ble y 125) (cond (Nat.ble y 122) (cond (Nat.ble y 121) (4) (2)) (cond (Nat.ble y 123) (3) (cond (Nat.ble y 124) (9) (3)))) (cond (Nat.ble y 127) (cond (Nat.ble y 126) (5) (8)) (cond (Nat.ble y 128) (2) (cond (Nat.ble y 129) (3) (4))))) (cond (Nat.ble y 135) (cond (Nat.ble y 132) (cond (Nat.ble y 131) (8) (7)) (cond (Nat.ble y 133) (6) (cond (Nat.ble y 134) (4) (8)))) (cond (Nat.ble y 137) (cond (Nat.ble y 136) (2) (11)) (cond (Nat.ble y 138) (5) (cond (Nat.ble y 139) (2) (2)))))) (cond (Nat.ble y 150) (cond (Nat.ble y 145) (cond (Nat.ble y 142) (cond (Nat.ble y 141) (5) (5)) (cond (Nat.ble y 143) (11) (cond (Nat.ble y 144) (5) (2)))) (cond (Nat.ble y 147) (cond (Nat.ble y 146) (6) (2)) (cond (Nat.ble y 148) (1) (cond (Nat.ble y 149) (2) (1))))) (cond (Nat.ble y 155) (cond (Nat.ble y 152) (cond (Nat.ble y 151) (1) (2)) (cond (Nat.ble y 153) (2) (cond (Nat.ble y 154) (2) (1)))) (cond (Nat.ble y 158) (cond (Nat.ble y 156) (2) (cond (Nat.ble y 157) (2) (5))) (cond (Nat.ble y 159) (4) (cond (Nat.ble y 160) (3) (4))))))))
def q_rt (y : Nat) : Option FieldType := cond (Nat.ble y 80) (cond (Nat.ble y 39) (cond (Nat.ble y 19) (cond (Nat.ble y 9) (cond (Nat.ble y 4) (cond (Nat.ble y 1) (cond (Nat.ble y 0) (none) ((some .boolean))) (cond (Nat.ble y 2) ((some .int)) (cond (Nat.ble y 3) ((some (.object "SlateQuarry$Wall"))) ((some .boolean))))) (cond (Nat.ble y 6) (cond (Nat.ble y 5) ((some .boolean)) (none)) (cond (Nat.ble y 7) (none) (cond (Nat.ble y 8) ((some .int)) ((some .int)))))) (cond (Nat.ble y 14) (cond (Nat.ble y 11) (cond (Nat.ble y 10) (none) ((some .boolean))) (cond (Nat.ble y 12) ((some .int)) (cond (Nat.ble y 13) (none) (none)))) (cond (Nat.ble y 16) (cond (Nat.ble y 15) (none) ((some .int))) (cond (Nat.ble y 17) (none) (cond (Nat.ble y 18) (none) ((some (.object "java/lang/String")))))))) (cond (Nat.ble y 29) (cond (Nat.ble y 24) (cond (Nat.ble y 21) (cond (Nat.ble y 20) (none) ((some .boolean))) (cond (Nat.ble y 22) ((some .boolean)) (cond (Nat.ble y 23) ((some .boolean)) ((some .boolean))))) (cond (Nat.ble y 26) (cond (Nat.ble y 25) ((some .boolean)) (none)) (cond (Nat.ble y 27) ((some .int)) (cond (Nat.ble y 28) ((some .int)) ((some .boolean)))))) (cond (Nat.ble y 34) (cond (Nat.ble y 31) (cond (Nat.ble y 30) (none) ((some .int))) (cond (Nat.ble y 32) (none) (cond (Nat.ble y 33) (none) (none)))) (cond (Nat.ble y 36) (cond (Nat.ble y 35) (none) (none)) (cond (Nat.ble y 37) ((some .boolean)) (cond (Nat.ble y 38) (none) ((some .boolean)))))))) (cond (Nat.ble y 59) (cond (Nat.ble y 49) (cond (Nat.ble y 44) (cond (Nat.ble y 41) (cond (Nat.ble y 40) ((some .boolean)) (none)) (cond (Nat.ble y 42) ((some .boolean)) (cond (Nat.ble y 43) ((some .boolean)) ((some .int))))) (cond (Nat.ble y 46) (cond (Nat.ble y 45) ((some .boolean)) ((some .int))) (cond (Nat.ble y 47) ((some .int)) (cond (Nat.ble y 48) ((some .int)) (none))))) (cond (Nat.ble y 54) (cond (Nat.ble y 51) (cond (Nat.ble y 50) ((some .int)) ((some .int))) (cond (Nat.ble y 52) (none) (cond (Nat.ble y 53) (none) ((some .boolean))))) (cond (Nat.ble y 56) (cond (Nat.ble y 55) ((some .boolean)) (none)) (cond (Nat.ble y 57) ((some .boolean)) (cond (Nat.ble y 58) (none) ((some .long))))))) (cond (Nat.ble y 69) (cond (Nat.ble y 64) (cond (Nat.ble y 61) (cond (Nat.ble y 60) ((some .long)) (none)) (cond (Nat.ble y 62) ((some .boolean)) (cond (Nat.ble y 63) ((some .boolean)) (none)))) (cond (Nat.ble y 66) (cond (Nat.ble y 65) ((some .int)) (none)) (cond (Nat.ble y 67) (none) (cond (Nat.ble y 68) ((some .int)) ((some .int)))))) (cond (Nat.ble y 74) (cond (Nat.ble y 71) (cond (Nat.ble y 70) ((some .int)) ((some .int))) (cond (Nat.ble y 72) ((some .int)) (cond (Nat.ble y 73) ((some .int)) ((some .int))))) (cond (Nat.ble y 77) (cond (Nat.ble y 75) ((some .int)) (cond (Nat.ble y 76) ((some .int)) ((some .int)))) (cond (Nat.ble y 78) ((some .int)) (cond (Nat.ble y 79) ((some .int)) ((some .int))))))))) (cond (Nat.ble y 120) (cond (Nat.ble y 100) (cond (Nat.ble y 90) (cond (Nat.ble y 85) (cond (Nat.ble y 82) (cond (Nat.ble y 81) ((some .int)) ((some .int))) (cond (Nat.ble y 83) ((some .int)) (cond (Nat.ble y 84) ((some .int)) ((some .int))))) (cond (Nat.ble y 87) (cond (Nat.ble y 86) ((some .int)) ((some .int))) (cond (Nat.ble y 88) ((some .int)) (cond (Nat.ble y 89) ((some .int)) ((some .int)))))) (cond (Nat.ble y 95) (cond (Nat.ble y 92) (cond (Nat.ble y 91) ((some (.object "SlateQuarry$Gang"))) ((some (.object "SlateQuarry$Sheet")))) (cond (Nat.ble y 93) ((some .boolean)) (cond (Nat.ble y 94) ((some .boolean)) ((some .boolean))))) (cond (Nat.ble y 97) (cond (Nat.ble y 96) ((some .int)) ((some .int))) (cond (Nat.ble y 98) (none) (cond (Nat.ble y 99) ((some .boolean)) ((some .int))))))) (cond (Nat.ble y 110) (cond (Nat.ble y 105) (cond (Nat.ble y 102) (cond (Nat.ble y 101) ((some .int)) (none)) (cond (Nat.ble y 103) ((some .int)) (cond (Nat.ble y 104) ((some .boolean)) ((some .int))))) (cond (Nat.ble y 107) (cond (Nat.ble y 106) (none) (none)) (cond (Nat.ble y 108) ((some .int)) (cond (Nat.ble y 109) (none) ((some .int)))))) (cond (Nat.ble y 115) (cond (Nat.ble y 112) (cond (Nat.ble y 111) ((some .int)) ((some .int))) (cond (Nat.ble y 113) ((some .int)) (cond (Nat.ble y 114) ((some .int)) ((some .int))))) (cond (Nat.ble y 117) (cond (Nat.ble y 116) ((some .boolean)) ((some .boolean))) (cond (Nat.ble y 118) ((some .int)) (cond (Nat.ble y 119) ((some .boolean)) ((some .int)))))))) (cond (Nat.ble y 140) (cond (Nat.ble y 130) (cond (Nat.ble y 125) (cond (Nat.ble y 122) (cond (Nat.ble y 121) ((some .int)) ((some .int))) (cond (Nat.ble y 123) ((some .int)) (cond (Nat.ble y 124) ((some .int)) ((some .int))))) (cond (Nat.ble y 127) (cond (Nat.ble y 126) ((some .int)) ((some .int))) (cond (Nat.ble y 128) ((some .int)) (cond (Nat.ble y 129) ((some .int)) ((some .boolean)))))) (cond (Nat.ble y 135) (cond (Nat.ble y 132) (cond (Nat.ble y 131) ((some .boolean)) ((some .int))) (cond (Nat.ble y 133) ((some .int)) (cond (Nat.ble y 134) ((some .int)) ((some .int))))) (cond (Nat.ble y 137) (cond (Nat.ble y 136) ((some .boolean)) ((some .int))) (cond (Nat.ble y 138) ((some .int)) (cond (Nat.ble y 139) ((some .int)) ((some .boolean))))))) (cond (Nat.ble y 150) (cond (Nat.ble y 145) (cond (Nat.ble y 142) (cond (Nat.ble y 141) ((some .int)) ((some .int))) (cond (Nat.ble y 143) ((some .int)) (cond (Nat.ble y 144) ((some .int)) ((some .int))))) (cond (Nat.ble y 147) (cond (Nat.ble y 146) ((some .long)) ((some .int))) (cond (Nat.ble y 148) ((some .int)) (cond (Nat.ble y 149) ((some .char)) ((some .byte)))))) (cond (Nat.ble y 155) (cond (Nat.ble y 152) (cond (Nat.ble y 151) ((some .boolean)) (none)) (cond (Nat.ble y 153) ((some .char)) (cond (Nat.ble y 154) ((some .char)) ((some .int))))) (cond (Nat.ble y 158) (cond (Nat.ble y 156) ((some .char)) (cond (Nat.ble y 157) (none) (none))) (cond (Nat.ble y 159) (none) (cond (Nat.ble y 160) ((some .int)) ((some .boolean)))))))))
def q_on (y : Nat) : Nat := cond (Nat.ble y 80) (cond (Nat.ble y 39) (cond (Nat.ble y 19) (cond (Nat.ble y 9) (cond (Nat.ble y 4) (cond (Nat.ble y 1) (cond (Nat.ble y 0) (0) (0)) (cond (Nat.ble y 2) (0) (cond (Nat.ble y 3) (0) (0)))) (cond (Nat.ble y 6) (cond (Nat.ble y 5) (0) (0)) (cond (Nat.ble y 7) (0) (cond (Nat.ble y 8) (0) (0))))) (cond (Nat.ble y 14) (cond (Nat.ble y 11) (cond (Nat.ble y 10) (1) (1)) (cond (Nat.ble y 12) (1) (cond (Nat.ble y 13) (1) (1)))) (cond (Nat.ble y 16) (cond (Nat.ble y 15) (1) (1)) (cond (Nat.ble y 17) (1) (cond (Nat.ble y 18) (2) (2)))))) (cond (Nat.ble y 29) (cond (Nat.ble y 24) (cond (Nat.ble y 21) (cond (Nat.ble y 20) (2) (2)) (cond (Nat.ble y 22) (2) (cond (Nat.ble y 23) (2) (2)))) (cond (Nat.ble y 26) (cond (Nat.ble y 25) (2) (2)) (cond (Nat.ble y 27) (2) (cond (Nat.ble y 28) (2) (2))))) (cond (Nat.ble y 34) (cond (Nat.ble y 31) (cond (Nat.ble y 30) (3) (3)) (cond (Nat.ble y 32) (3) (cond (Nat.ble y 33) (3) (3)))) (cond (Nat.ble y 36) (cond (Nat.ble y 35) (3) (3)) (cond (Nat.ble y 37) (3) (cond (Nat.ble y 38) (3) (3))))))) (cond (Nat.ble y 59) (cond (Nat.ble y 49) (cond (Nat.ble y 44) (cond (Nat.ble y 41) (cond (Nat.ble y 40) (3) (4)) (cond (Nat.ble y 42) (4) (cond (Nat.ble y 43) (4) (4)))) (cond (Nat.ble y 46) (cond (Nat.ble y 45) (4) (4)) (cond (Nat.ble y 47) (4) (cond (Nat.ble y 48) (4) (4))))) (cond (Nat.ble y 54) (cond (Nat.ble y 51) (cond (Nat.ble y 50) (4) (4)) (cond (Nat.ble y 52) (4) (cond (Nat.ble y 53) (5) (5)))) (cond (Nat.ble y 56) (cond (Nat.ble y 55) (5) (5)) (cond (Nat.ble y 57) (5) (cond (Nat.ble y 58) (5) (5)))))) (cond (Nat.ble y 69) (cond (Nat.ble y 64) (cond (Nat.ble y 61) (cond (Nat.ble y 60) (5) (6)) (cond (Nat.ble y 62) (6) (cond (Nat.ble y 63) (6) (6)))) (cond (Nat.ble y 66) (cond (Nat.ble y 65) (6) (7)) (cond (Nat.ble y 67) (8) (cond (Nat.ble y 68) (8) (8))))) (cond (Nat.ble y 74) (cond (Nat.ble y 71) (cond (Nat.ble y 70) (8) (8)) (cond (Nat.ble y 72) (8) (cond (Nat.ble y 73) (8) (8)))) (cond (Nat.ble y 77) (cond (Nat.ble y 75) (8) (cond (Nat.ble y 76) (8) (8))) (cond (Nat.ble y 78) (8) (cond (Nat.ble y 79) (8) (8)))))))) (cond (Nat.ble y 120) (cond (Nat.ble y 100) (cond (Nat.ble y 90) (cond (Nat.ble y 85) (cond (Nat.ble y 82) (cond (Nat.ble y 81) (8) (8)) (cond (Nat.ble y 83) (8) (cond (Nat.ble y 84) (8) (8)))) (cond (Nat.ble y 87) (cond (Nat.ble y 86) (8) (8)) (cond (Nat.ble y 88) (8) (cond (Nat.ble y 89) (8) (8))))) (cond (Nat.ble y 95) (cond (Nat.ble y 92) (cond (Nat.ble y 91) (8) (8)) (cond (Nat.ble y 93) (8) (cond (Nat.ble y 94) (8) (8)))) (cond (Nat.ble y 97) (cond (Nat.ble y 96) (8) (8)) (cond (Nat.ble y 98) (9) (cond (Nat.ble y 99) (9) (9)))))) (cond (Nat.ble y 110) (cond (Nat.ble y 105) (cond (Nat.ble y 102) (cond (Nat.ble y 101) (9) (9)) (cond (Nat.ble y 103) (9) (cond (Nat.ble y 104) (9) (9)))) (cond (Nat.ble y 107) (cond (Nat.ble y 106) (9) (9)) (cond (Nat.ble y 108) (9) (cond (Nat.ble y 109) (9) (9))))) (cond (Nat.ble y 115) (cond (Nat.ble y 112) (cond (Nat.ble y 111) (9) (9)) (cond (Nat.ble y 113) (9) (cond (Nat.ble y 114) (9) (9)))) (cond (Nat.ble y 117) (cond (Nat.ble y 116) (9) (9)) (cond (Nat.ble y 118) (9) (cond (Nat.ble y 119) (9) (9))))))) (cond (Nat.ble y 140) (cond (Nat.ble y 130) (cond (Nat.ble y 125) (cond (Nat.ble y 122) (cond (Nat.ble y 121) (9) (9)) (cond (Nat.ble y 123) (9) (cond (Nat.ble y 124) (9) (9)))) (cond (Nat.ble y 127) (cond (Nat.ble y 126) (9) (9)) (cond (Nat.ble y 128) (9) (cond (Nat.ble y 129) (9) (9))))) (cond (Nat.ble y 135) (cond (Nat.ble y 132) (cond (Nat.ble y 131) (9) (9)) (cond (Nat.ble y 133) (9) (cond (Nat.ble y 134) (9) (9)))) (cond (Nat.ble y 137) (cond (Nat.ble y 136) (9) (9)) (cond (Nat.ble y 138) (9) (cond (Nat.ble y 139) (9) (9)))))) (cond (Nat.ble y 150) (cond (Nat.ble y 145) (cond (Nat.ble y 142) (cond (Nat.ble y 141) (9) (9)) (cond (Nat.ble y 143) (9) (cond (Nat.ble y 144) (9) (10)))) (cond (Nat.ble y 147) (cond (Nat.ble y 146) (11) (11)) (cond (Nat.ble y 148) (12) (cond (Nat.ble y 149) (12) (12))))) (cond (Nat.ble y 155) (cond (Nat.ble y 152) (cond (Nat.ble y 151) (12) (12)) (cond (Nat.ble y 153) (13) (cond (Nat.ble y 154) (14) (14)))) (cond (Nat.ble y 158) (cond (Nat.ble y 156) (14) (cond (Nat.ble y 157) (14) (15))) (cond (Nat.ble y 159) (15) (cond (Nat.ble y 160) (16) (17))))))))
def q_na (y : Nat) : Nat := cond (Nat.ble y 80) (cond (Nat.ble y 39) (cond (Nat.ble y 19) (cond (Nat.ble y 9) (cond (Nat.ble y 4) (cond (Nat.ble y 1) (cond (Nat.ble y 0) (0) (1)) (cond (Nat.ble y 2) (2) (cond (Nat.ble y 3) (1) (1)))) (cond (Nat.ble y 6) (cond (Nat.ble y 5) (1) (2)) (cond (Nat.ble y 7) (0) (cond (Nat.ble y 8) (0) (0))))) (cond (Nat.ble y 14) (cond (Nat.ble y 11) (cond (Nat.ble y 10) (1) (0)) (cond (Nat.ble y 12) (1) (cond (Nat.ble y 13) (2) (1)))) (cond (Nat.ble y 16) (cond (Nat.ble y 15) (0) (1)) (cond (Nat.ble y 17) (2) (cond (Nat.ble y 18) (0) (1)))))) (cond (Nat.ble y 29) (cond (Nat.ble y 24) (cond (Nat.ble y 21) (cond (Nat.ble y 20) (0) (1)) (cond (Nat.ble y 22) (1) (cond (Nat.ble y 23) (2) (1)))) (cond (Nat.ble y 26) (cond (Nat.ble y 25) (1) (3)) (cond (Nat.ble y 27) (1) (cond (Nat.ble y 28) (1) (1))))) (cond (Nat.ble y 34) (cond (Nat.ble y 31) (cond (Nat.ble y 30) (0) (1)) (cond (Nat.ble y 32) (1) (cond (Nat.ble y 33) (2) (0)))) (cond (Nat.ble y 36) (cond (Nat.ble y 35) (0) (0)) (cond (Nat.ble y 37) (1) (cond (Nat.ble y 38) (0) (1))))))) (cond (Nat.ble y 59) (cond (Nat.ble y 49) (cond (Nat.ble y 44) (cond (Nat.ble y 41) (cond (Nat.ble y 40) (1) (0)) (cond (Nat.ble y 42) (2) (cond (Nat.ble y 43) (2) (2)))) (cond (Nat.ble y 46) (cond (Nat.ble y 45) (1) (1)) (cond (Nat.ble y 47) (2) (cond (Nat.ble y 48) (4) (2))))) (cond (Nat.ble y 54) (cond (Nat.ble y 51) (cond (Nat.ble y 50) (3) (1)) (cond (Nat.ble y 52) (0) (cond (Nat.ble y 53) (0) (1)))) (cond (Nat.ble y 56) (cond (Nat.ble y 55) (0) (2)) (cond (Nat.ble y 57) (1) (cond (Nat.ble y 58) (2) (1)))))) (cond (Nat.ble y 69) (cond (Nat.ble y 64) (cond (Nat.ble y 61) (cond (Nat.ble y 60) (1) (0)) (cond (Nat.ble y 62) (1) (cond (Nat.ble y 63) (1) (0)))) (cond (Nat.ble y 66) (cond (Nat.ble y 65) (1) (0)) (cond (Nat.ble y 67) (0) (cond (Nat.ble y 68) (1) (1))))) (cond (Nat.ble y 74) (cond (Nat.ble y 71) (cond (Nat.ble y 70) (0) (0)) (cond (Nat.ble y 72) (1) (cond (Nat.ble y 73) (3) (3)))) (cond (Nat.ble y 77) (cond (Nat.ble y 75) (3) (cond (Nat.ble y 76) (1) (2))) (cond (Nat.ble y 78) (3) (cond (Nat.ble y 79) (4) (0)))))))) (cond (Nat.ble y 120) (cond (Nat.ble y 100) (cond (Nat.ble y 90) (cond (Nat.ble y 85) (cond (Nat.ble y 82) (cond (Nat.ble y 81) (0) (2)) (cond (Nat.ble y 83) (2) (cond (Nat.ble y 84) (3) (3)))) (cond (Nat.ble y 87) (cond (Nat.ble y 86) (1) (3)) (cond (Nat.ble y 88) (3) (cond (Nat.ble y 89) (4) (1))))) (cond (Nat.ble y 95) (cond (Nat.ble y 92) (cond (Nat.ble y 91) (1) (1)) (cond (Nat.ble y 93) (1) (cond (Nat.ble y 94) (2) (3)))) (cond (Nat.ble y 97) (cond (Nat.ble y 96) (3) (2)) (cond (Nat.ble y 98) (0) (cond (Nat.ble y 99) (3) (1)))))) (cond (Nat.ble y 110) (cond (Nat.ble y 105) (cond (Nat.ble y 102) (cond (Nat.ble y 101) (1) (2)) (cond (Nat.ble y 103) (1) (cond (Nat.ble y 104) (5) (0)))) (cond (Nat.ble y 107) (cond (Nat.ble y 106) (0) (2)) (cond (Nat.ble y 108) (0) (cond (Nat.ble y 109) (0) (0))))) (cond (Nat.ble y 115) (cond (Nat.ble y 112) (cond (Nat.ble y 111) (0) (0)) (cond (Nat.ble y 113) (1) (cond (Nat.ble y 114) (1) (1)))) (cond (Nat.ble y 117) (cond (Nat.ble y 116) (2) (1)) (cond (Nat.ble y 118) (3) (cond (Nat.ble y 119) (1) (3))))))) (cond (Nat.ble y 140) (cond (Nat.ble y 130) (cond (Nat.ble y 125) (cond (Nat.ble y 122) (cond (Nat.ble y 121) (3) (1)) (cond (Nat.ble y 123) (2) (cond (Nat.ble y 124) (3) (0)))) (cond (Nat.ble y 127) (cond (Nat.ble y 126) (4) (0)) (cond (Nat.ble y 128) (0) (cond (Nat.ble y 129) (2) (2))))) (cond (Nat.ble y 135) (cond (Nat.ble y 132) (cond (Nat.ble y 131) (4) (2)) (cond (Nat.ble y 133) (3) (cond (Nat.ble y 134) (2) (3)))) (cond (Nat.ble y 137) (cond (Nat.ble y 136) (1) (3)) (cond (Nat.ble y 138) (3) (cond (Nat.ble y 139) (1) (2)))))) (cond (Nat.ble y 150) (cond (Nat.ble y 145) (cond (Nat.ble y 142) (cond (Nat.ble y 141) (3) (3)) (cond (Nat.ble y 143) (4) (cond (Nat.ble y 144) (1) (2)))) (cond (Nat.ble y 147) (cond (Nat.ble y 146) (2) (2)) (cond (Nat.ble y 148) (0) (cond (Nat.ble y 149) (1) (0))))) (cond (Nat.ble y 155) (cond (Nat.ble y 152) (cond (Nat.ble y 151) (0) (2)) (cond (Nat.ble y 153) (2) (cond (Nat.ble y 154) (2) (1)))) (cond (Nat.ble y 158) (cond (Nat.ble y 156) (2) (cond (Nat.ble y 157) (2) (2))) (cond (Nat.ble y 159) (2) (cond (Nat.ble y 160) (3) (1))))))))
def q_gX0_init (pc : Nat) : Option (Instr × Nat) := cond (Nat.ble pc 16) (cond (Nat.ble pc 7) (cond (Nat.ble pc 1) (cond (Nat.ble pc 0) (cond (Nat.beq pc 0) (some (.aload_n 0, 1)) none) (cond (Nat.beq pc 1) (some (.invokespecial 5, 3)) none)) (cond (Nat.ble pc 4) (cond (Nat.beq pc 4) (some (.aload_n 0, 1)) none) (cond (Nat.ble pc 5) (cond (Nat.beq pc 5) (some (.bipush 30, 2)) none) (cond (Nat.beq pc 7) (some (.anewarray 11, 3)) none)))) (cond (Nat.ble pc 13) (cond (Nat.ble pc 10) (cond (Nat.beq pc 10) (some (.putfield 13, 3)) none) (cond (Nat.beq pc 13) (some (.iconst 0, 1)) none)) (cond (Nat.ble pc 14) (cond (Nat.beq pc 14) (some (.istore_n 1, 1)) none) (cond (Nat.ble pc 15) (cond (Nat.beq pc 15) (some (.iload_n 1, 1)) none) (cond (Nat.beq pc 16) (some (.bipush 30, 2)) none))))) (cond (Nat.ble pc 26) (cond (Nat.ble pc 21) (cond (Nat.ble pc 18) (cond (Nat.beq pc 18) (some (.if_icmp .ge 22, 3)) none) (cond (Nat.beq pc 21) (some (.aload_n 0, 1)) none)) (cond (Nat.ble pc 22) (cond (Nat.beq pc 22) (some (.getfield 13, 3)) none) (cond (Nat.ble pc 25) (cond (Nat.beq pc 25) (some (.iload_n 1, 1)) none) (cond (Nat.beq pc 26) (some (.new 11, 3)) none)))) (cond (Nat.ble pc 33) (cond (Nat.ble pc 29) (cond (Nat.beq pc 29) (some (.dup, 1)) none) (cond (Nat.ble pc 30) (cond (Nat.beq pc 30) (some (.invokespecial 17, 3)) none) (cond (Nat.beq pc 33) (some (.aastore, 1)) none))) (cond (Nat.ble pc 34) (cond (Nat.beq pc 34) (some (.iinc 1 1, 3)) none) (cond (Nat.ble pc 37) (cond (Nat.beq pc 37) (some (.goto (-22), 3)) none) (cond (Nat.beq pc 40) (some (.return_, 1)) none)))))
def q_gX0_isGoodness (pc : Nat) : Option (Instr × Nat) := cond (Nat.ble pc 5) (cond (Nat.ble pc 1) (cond (Nat.ble pc 0) (cond (Nat.beq pc 0) (some (.iload_n 0, 1)) none) (cond (Nat.beq pc 1) (some (.ifCond .lt 13, 3)) none)) (cond (Nat.ble pc 4) (cond (Nat.beq pc 4) (some (.iload_n 0, 1)) none) (cond (Nat.beq pc 5) (some (.bipush 9, 2)) none))) (cond (Nat.ble pc 10) (cond (Nat.ble pc 7) (cond (Nat.beq pc 7) (some (.if_icmp .gt 7, 3)) none) (cond (Nat.beq pc 10) (some (.iconst 1, 1)) none)) (cond (Nat.ble pc 11) (cond (Nat.beq pc 11) (some (.goto 4, 3)) none) (cond (Nat.ble pc 14) (cond (Nat.beq pc 14) (some (.iconst 0, 1)) none) (cond (Nat.beq pc 15) (some (.ireturn, 1)) none))))
def q_gX0_indexOf (pc : Nat) : Option (Instr × Nat) := cond (Nat.ble pc 14) (cond (Nat.ble pc 5) (cond (Nat.ble pc 1) (cond (Nat.ble pc 0) (cond (Nat.beq pc 0) (some (.iload_n 0, 1)) none) (cond (Nat.beq pc 1) (some (.ifCond .lt 18, 3)) none)) (cond (Nat.ble pc 4) (cond (Nat.beq pc 4) (some (.iload_n 0, 1)) none) (cond (Nat.beq pc 5) (some (.iconst 5, 1)) none))) (cond (Nat.ble pc 9) (cond (Nat.ble pc 6) (cond (Nat.beq pc 6) (some (.if_icmp .ge 13, 3)) none) (cond (Nat.beq pc 9) (some (.iload_n 1, 1)) none)) (cond (Nat.ble pc 10) (cond (Nat.beq pc 10) (some (.ifCond .lt 9, 3)) none) (cond (Nat.ble pc 13) (cond (Nat.beq pc 13) (some (.iload_n 1, 1)) none) (cond (Nat.beq pc 14) (some (.bipush 6, 2)) none))))) (cond (Nat.ble pc 22) (cond (Nat.ble pc 19) (cond (Nat.ble pc 16) (cond (Nat.beq pc 16) (some (.if_icmp .lt 6, 3)) none) (cond (Nat.beq pc 19) (some (.bipush (-4), 2)) none)) (cond (Nat.ble pc 21) (cond (Nat.beq pc 21) (some (.ireturn, 1)) none) (cond (Nat.beq pc 22) (some (.bipush 6, 2)) none))) (cond (Nat.ble pc 25) (cond (Nat.ble pc 24) (cond (Nat.beq pc 24) (some (.iload_n 0, 1)) none) (cond (Nat.beq pc 25) (some (.imul, 1)) none)) (cond (Nat.ble pc 26) (cond (Nat.beq pc 26) (some (.iload_n 1, 1)) none) (cond (Nat.ble pc 27) (cond (Nat.beq pc 27) (some (.iadd, 1)) none) (cond (Nat.beq pc 28) (some (.ireturn, 1)) none)))))
def q_gX0_wallAt (pc : Nat) : Option (Instr × Nat) := cond (Nat.ble pc 10) (cond (Nat.ble pc 4) (cond (Nat.ble pc 0) (cond (Nat.beq pc 0) (some (.iload_n 1, 1)) none) (cond (Nat.ble pc 1) (cond (Nat.beq pc 1) (some (.ifCond .lt 9, 3)) none) (cond (Nat.beq pc 4) (some (.iload_n 1, 1)) none))) (cond (Nat.ble pc 5) (cond (Nat.beq pc 5) (some (.bipush 30, 2)) none) (cond (Nat.ble pc 7) (cond (Nat.beq pc 7) (some (.if_icmp .lt 7, 3)) none) (cond (Nat.beq pc 10) (some (.aconst_null, 1)) none)))) (cond (Nat.ble pc 15) (cond (Nat.ble pc 11) (cond (Nat.beq pc 11) (some (.goto 9, 3)) none) (cond (Nat.ble pc 14) (cond (Nat.beq pc 14) (some (.aload_n 0, 1)) none) (cond (Nat.beq pc 15) (some (.getfield 13, 3)) none))) (cond (Nat.ble pc 18) (cond (Nat.beq pc 18) (some (.iload_n 1, 1)) none) (cond (Nat.ble pc 19) (cond (Nat.beq pc 19) (some (.aaload, 1)) none) (cond (Nat.beq pc 20) (some (.areturn, 1)) none))))
def q_gX0_mayBeWorked (pc : Nat) : Option (Instr × Nat) := cond (Nat.ble pc 13) (cond (Nat.ble pc 8) (cond (Nat.ble pc 1) (cond (Nat.ble pc 0) (cond (Nat.beq pc 0) (some (.aload_n 0, 1)) none) (cond (Nat.beq pc 1) (some (.iload_n 1, 1)) none)) (cond (Nat.ble pc 2) (cond (Nat.beq pc 2) (some (.invokevirtual 18, 3)) none) (cond (Nat.ble pc 5) (cond (Nat.beq pc 5) (some (.ifnonnull 5, 3)) none) (cond (Nat.beq pc 8) (some (.iconst 0, 1)) none)))) (cond (Nat.ble pc 10) (cond (Nat.ble pc 9) (cond (Nat.beq pc 9) (some (.ireturn, 1)) none) (cond (Nat.beq pc 10) (some (.iload_n 1, 1)) none)) (cond (Nat.ble pc 11) (cond (Nat.beq pc 11) (some (.istore_n 2, 1)) none) (cond (Nat.ble pc 12) (cond (Nat.beq pc 12) (some (.iload_n 2, 1)) none) (cond (Nat.beq pc 13) (some (.bipush 30, 2)) none))))) (cond (Nat.ble pc 23) (cond (Nat.ble pc 18) (cond (Nat.ble pc 15) (cond (Nat.beq pc 15) (some (.if_icmp .ge 19, 3)) none) (cond (Nat.beq pc 18) (some (.aload_n 0, 1)) none)) (cond (Nat.ble pc 19) (cond (Nat.beq pc 19) (some (.iload_n 2, 1)) none) (cond (Nat.ble pc 20) (cond (Nat.beq pc 20) (some (.invokevirtual 22, 3)) none) (cond (Nat.beq pc 23) (some (.ifCond .eq 5, 3)) none)))) (cond (Nat.ble pc 28) (cond (Nat.ble pc 26) (cond (Nat.beq pc 26) (some (.iconst 0, 1)) none) (cond (Nat.ble pc 27) (cond (Nat.beq pc 27) (some (.ireturn, 1)) none) (cond (Nat.beq pc 28) (some (.iinc 2 6, 3)) none))) (cond (Nat.ble pc 31) (cond (Nat.beq pc 31) (some (.goto (-19), 3)) none) (cond (Nat.ble pc 34) (cond (Nat.beq pc 34) (some (.iconst 1, 1)) none) (cond (Nat.beq pc 35) (some (.ireturn, 1)) none)))))
def q_gX0_isLoose (pc : Nat) : Option (Instr × Nat) := cond (Nat.ble pc 7) (cond (Nat.ble pc 2) (cond (Nat.ble pc 0) (cond (Nat.beq pc 0) (some (.aload_n 0, 1)) none) (cond (Nat.ble pc 1) (cond (Nat.beq pc 1) (some (.iload_n 1, 1)) none) (cond (Nat.beq pc 2) (some (.invokevirtual 18, 3)) none))) (cond (Nat.ble pc 5) (cond (Nat.beq pc 5) (some (.astore_n 2, 1)) none) (cond (Nat.ble pc 6) (cond (Nat.beq pc 6) (some (.aload_n 2, 1)) none) (cond (Nat.beq pc 7) (some (.ifnull 14, 3)) none)))) (cond (Nat.ble pc 14) (cond (Nat.ble pc 10) (cond (Nat.beq pc 10) (some (.aload_n 2, 1)) none) (cond (Nat.ble pc 11) (cond (Nat.beq pc 11) (some (.getfield 26, 3)) none) (cond (Nat.beq pc 14) (some (.ifCond .eq 7, 3)) none))) (cond (Nat.ble pc 18) (cond (Nat.ble pc 17) (cond (Nat.beq pc 17) (some (.iconst 1, 1)) none) (cond (Nat.beq pc 18) (some (.goto 4, 3)) none)) (cond (Nat.ble pc 21) (cond (Nat.beq pc 21) (some (.iconst 0, 1)) none) (cond (Nat.beq pc 22) (some (.ireturn, 1)) none))))
def q_gX0_loosenAbove (pc : Nat) : Option (Instr × Nat) := cond (Nat.ble pc 22) (cond (Nat.ble pc 8) (cond (Nat.ble pc 2) (cond (Nat.ble pc 0) (cond (Nat.beq pc 0) (some (.aload_n 0, 1)) none) (cond (Nat.ble pc 1) (cond (Nat.beq pc 1) (some (.iload_n 1, 1)) none) (cond (Nat.beq pc 2) (some (.invokevirtual 18, 3)) none))) (cond (Nat.ble pc 6) (cond (Nat.ble pc 5) (cond (Nat.beq pc 5) (some (.astore_n 3, 1)) none) (cond (Nat.beq pc 6) (some (.aload_n 0, 1)) none)) (cond (Nat.ble pc 7) (cond (Nat.beq pc 7) (some (.iload_n 1, 1)) none) (cond (Nat.beq pc 8) (some (.bipush 6, 2)) none)))) (cond (Nat.ble pc 14) (cond (Nat.ble pc 10) (cond (Nat.beq pc 10) (some (.iadd, 1)) none) (cond (Nat.ble pc 11) (cond (Nat.beq pc 11) (some (.invokevirtual 18, 3)) none) (cond (Nat.beq pc 14) (some (.astore 4, 2)) none))) (cond (Nat.ble pc 17) (cond (Nat.ble pc 16) (cond (Nat.beq pc 16) (some (.aload_n 3, 1)) none) (cond (Nat.beq pc 17) (some (.ifnull 14, 3)) none)) (cond (Nat.ble pc 20) (cond (Nat.beq pc 20) (some (.aload 4, 2)) none) (cond (Nat.beq pc 22) (some (.ifnull 9, 3)) none))))) (cond (Nat.ble pc 36) (cond (Nat.ble pc 28) (cond (Nat.ble pc 25) (cond (Nat.beq pc 25) (some (.iload_n 2, 1)) none) (cond (Nat.ble pc 26) (cond (Nat.beq pc 26) (some (.bipush (-4), 2)) none) (cond (Nat.beq pc 28) (some (.if_icmp .ne 4, 3)) none))) (cond (Nat.ble pc 32) (cond (Nat.ble pc 31) (cond (Nat.beq pc 31) (some (.return_, 1)) none) (cond (Nat.beq pc 32) (some (.aload_n 3, 1)) none)) (cond (Nat.ble pc 33) (cond (Nat.beq pc 33) (some (.getfield 30, 3)) none) (cond (Nat.beq pc 36) (some (.aload 4, 2)) none)))) (cond (Nat.ble pc 43) (cond (Nat.ble pc 41) (cond (Nat.ble pc 38) (cond (Nat.beq pc 38) (some (.getfield 30, 3)) none) (cond (Nat.beq pc 41) (some (.isub, 1)) none)) (cond (Nat.ble pc 42) (cond (Nat.beq pc 42) (some (.iload_n 2, 1)) none) (cond (Nat.beq pc 43) (some (.if_icmp .lt 9, 3)) none))) (cond (Nat.ble pc 48) (cond (Nat.ble pc 46) (cond (Nat.beq pc 46) (some (.aload 4, 2)) none) (cond (Nat.beq pc 48) (some (.iconst 1, 1)) none)) (cond (Nat.ble pc 49) (cond (Nat.beq pc 49) (some (.putfield 26, 3)) none) (cond (Nat.beq pc 52) (some (.return_, 1)) none)))))
def q_gX0_freeAll (pc : Nat) : Option (Instr × Nat) := cond (Nat.ble pc 10) (cond (Nat.ble pc 3) (cond (Nat.ble pc 1) (cond (Nat.ble pc 0) (cond (Nat.beq pc 0) (some (.iconst 0, 1)) none) (cond (Nat.beq pc 1) (some (.istore_n 1, 1)) none)) (cond (Nat.ble pc 2) (cond (Nat.beq pc 2) (some (.iload_n 1, 1)) none) (cond (Nat.beq pc 3) (some (.bipush 30, 2)) none))) (cond (Nat.ble pc 8) (cond (Nat.ble pc 5) (cond (Nat.beq pc 5) (some (.if_icmp .ge 25, 3)) none) (cond (Nat.beq pc 8) (some (.aload_n 0, 1)) none)) (cond (Nat.ble pc 9) (cond (Nat.beq pc 9) (some (.iload_n 1, 1)) none) (cond (Nat.beq pc 10) (some (.invokevirtual 18, 3)) none)))) (cond (Nat.ble pc 18) (cond (Nat.ble pc 14) (cond (Nat.ble pc 13) (cond (Nat.beq pc 13) (some (.astore_n 2, 1)) none) (cond (Nat.beq pc 14) (some (.aload_n 2, 1)) none)) (cond (Nat.ble pc 15) (cond (Nat.beq pc 15) (some (.ifnull 9, 3)) none) (cond (Nat.beq pc 18) (some (.aload_n 2, 1)) none))) (cond (Nat.ble pc 21) (cond (Nat.ble pc 19) (cond (Nat.beq pc 19) (some (.bipush (-4), 2)) none) (cond (Nat.beq pc 21) (some (.putfield 34, 3)) none)) (cond (Nat.ble pc 24) (cond (Nat.beq pc 24) (some (.iinc 1 1, 3)) none) (cond (Nat.ble pc 27) (cond (Nat.beq pc 27) (some (.goto (-25), 3)) none) (cond (Nat.beq pc 30) (some (.return_, 1)) none)))))
def q_gX0_heldWalls (pc : Nat) : Option (Instr × Nat) := cond (Nat.ble pc 15) (cond (Nat.ble pc 4) (cond (Nat.ble pc 1) (cond (Nat.ble pc 0) (cond (Nat.beq pc 0) (some (.iconst 0, 1)) none) (cond (Nat.beq pc 1) (some (.istore_n 1, 1)) none)) (cond (Nat.ble pc 2) (cond (Nat.beq pc 2) (some (.iconst 0, 1)) none) (cond (Nat.ble pc 3) (cond (Nat.beq pc 3) (some (.istore_n 2, 1)) none) (cond (Nat.beq pc 4) (some (.iload_n 2, 1)) none)))) (cond (Nat.ble pc 10) (cond (Nat.ble pc 5) (cond (Nat.beq pc 5) (some (.bipush 30, 2)) none) (cond (Nat.ble pc 7) (cond (Nat.beq pc 7) (some (.if_icmp .ge 31, 3)) none) (cond (Nat.beq pc 10) (some (.aload_n 0, 1)) none))) (cond (Nat.ble pc 11) (cond (Nat.beq pc 11) (some (.iload_n 2, 1)) none) (cond (Nat.ble pc 12) (cond (Nat.beq pc 12) (some (.invokevirtual 18, 3)) none) (cond (Nat.beq pc 15) (some (.astore_n 3, 1)) none))))) (cond (Nat.ble pc 24) (cond (Nat.ble pc 17) (cond (Nat.ble pc 16) (cond (Nat.beq pc 16) (some (.aload_n 3, 1)) none) (cond (Nat.beq pc 17) (some (.ifnull 15, 3)) none)) (cond (Nat.ble pc 20) (cond (Nat.beq pc 20) (some (.aload_n 3, 1)) none) (cond (Nat.ble pc 21) (cond (Nat.beq pc 21) (some (.getfield 34, 3)) none) (cond (Nat.beq pc 24) (some (.bipush (-4), 2)) none)))) (cond (Nat.ble pc 32) (cond (Nat.ble pc 26) (cond (Nat.beq pc 26) (some (.if_icmp .eq 6, 3)) none) (cond (Nat.ble pc 29) (cond (Nat.beq pc 29) (some (.iinc 1 1, 3)) none) (cond (Nat.beq pc 32) (some (.iinc 2 1, 3)) none))) (cond (Nat.ble pc 35) (cond (Nat.beq pc 35) (some (.goto (-31), 3)) none) (cond (Nat.ble pc 38) (cond (Nat.beq pc 38) (some (.iload_n 1, 1)) none) (cond (Nat.beq pc 39) (some (.ireturn, 1)) none)))))
def q_gX0_looseWalls (pc : Nat) : Option (Instr × Nat) := cond (Nat.ble pc 10) (cond (Nat.ble pc 3) (cond (Nat.ble pc 1) (cond (Nat.ble pc 0) (cond (Nat.beq pc 0) (some (.iconst 0, 1)) none) (cond (Nat.beq pc 1) (some (.istore_n 1, 1)) none)) (cond (Nat.ble pc 2) (cond (Nat.beq pc 2) (some (.iconst 0, 1)) none) (cond (Nat.beq pc 3) (some (.istore_n 2, 1)) none))) (cond (Nat.ble pc 5) (cond (Nat.ble pc 4) (cond (Nat.beq pc 4) (some (.iload_n 2, 1)) none) (cond (Nat.beq pc 5) (some (.bipush 30, 2)) none)) (cond (Nat.ble pc 7) (cond (Nat.beq pc 7) (some (.if_icmp .ge 20, 3)) none) (cond (Nat.beq pc 10) (some (.aload_n 0, 1)) none)))) (cond (Nat.ble pc 18) (cond (Nat.ble pc 12) (cond (Nat.ble pc 11) (cond (Nat.beq pc 11) (some (.iload_n 2, 1)) none) (cond (Nat.beq pc 12) (some (.invokevirtual 22, 3)) none)) (cond (Nat.ble pc 15) (cond (Nat.beq pc 15) (some (.ifCond .eq 6, 3)) none) (cond (Nat.beq pc 18) (some (.iinc 1 1, 3)) none))) (cond (Nat.ble pc 24) (cond (Nat.ble pc 21) (cond (Nat.beq pc 21) (some (.iinc 2 1, 3)) none) (cond (Nat.beq pc 24) (some (.goto (-20), 3)) none)) (cond (Nat.ble pc 27) (cond (Nat.beq pc 27) (some (.iload_n 1, 1)) none) (cond (Nat.beq pc 28) (some (.ireturn, 1)) none))))
def q_gX1_init (pc : Nat) : Option (Instr × Nat) := cond (Nat.ble pc 28) (cond (Nat.ble pc 13) (cond (Nat.ble pc 5) (cond (Nat.ble pc 1) (cond (Nat.ble pc 0) (cond (Nat.beq pc 0) (some (.aload_n 0, 1)) none) (cond (Nat.beq pc 1) (some (.invokespecial 3, 3)) none)) (cond (Nat.ble pc 4) (cond (Nat.beq pc 4) (some (.aload_n 0, 1)) none) (cond (Nat.beq pc 5) (some (.bipush 30, 2)) none))) (cond (Nat.ble pc 9) (cond (Nat.ble pc 7) (cond (Nat.beq pc 7) (some (.newarray .int, 2)) none) (cond (Nat.beq pc 9) (some (.putfield 11, 3)) none)) (cond (Nat.ble pc 12) (cond (Nat.beq pc 12) (some (.aload_n 0, 1)) none) (cond (Nat.beq pc 13) (some (.iconst 0, 1)) none)))) (cond (Nat.ble pc 19) (cond (Nat.ble pc 17) (cond (Nat.ble pc 14) (cond (Nat.beq pc 14) (some (.putfield 17, 3)) none) (cond (Nat.beq pc 17) (some (.aload_n 0, 1)) none)) (cond (Nat.ble pc 18) (cond (Nat.beq pc 18) (some (.iconst 0, 1)) none) (cond (Nat.beq pc 19) (some (.putfield 21, 3)) none))) (cond (Nat.ble pc 23) (cond (Nat.ble pc 22) (cond (Nat.beq pc 22) (some (.aload_n 0, 1)) none) (cond (Nat.beq pc 23) (some (.bipush (-4), 2)) none)) (cond (Nat.ble pc 25) (cond (Nat.beq pc 25) (some (.putfield 24, 3)) none) (cond (Nat.beq pc 28) (some (.aload_n 0, 1)) none))))) (cond (Nat.ble pc 40) (cond (Nat.ble pc 34) (cond (Nat.ble pc 30) (cond (Nat.ble pc 29) (cond (Nat.beq pc 29) (some (.iconst 0, 1)) none) (cond (Nat.beq pc 30) (some (.putfield 27, 3)) none)) (cond (Nat.ble pc 33) (cond (Nat.beq pc 33) (some (.aload_n 0, 1)) none) (cond (Nat.beq pc 34) (some (.iconst 0, 1)) none))) (cond (Nat.ble pc 38) (cond (Nat.ble pc 35) (cond (Nat.beq pc 35) (some (.putfield 30, 3)) none) (cond (Nat.beq pc 38) (some (.aload_n 0, 1)) none)) (cond (Nat.ble pc 39) (cond (Nat.beq pc 39) (some (.iconst 0, 1)) none) (cond (Nat.beq pc 40) (some (.putfield 33, 3)) none)))) (cond (Nat.ble pc 48) (cond (Nat.ble pc 44) (cond (Nat.ble pc 43) (cond (Nat.beq pc 43) (some (.aload_n 0, 1)) none) (cond (Nat.beq pc 44) (some (.iload_n 1, 1)) none)) (cond (Nat.ble pc 45) (cond (Nat.beq pc 45) (some (.putfield 37, 3)) none) (cond (Nat.beq pc 48) (some (.aload_n 0, 1)) none))) (cond (Nat.ble pc 52) (cond (Nat.ble pc 49) (cond (Nat.beq pc 49) (some (.getfield 11, 3)) none) (cond (Nat.beq pc 52) (some (.bipush (-4), 2)) none)) (cond (Nat.ble pc 54) (cond (Nat.beq pc 54) (some (.invokestatic 40, 3)) none) (cond (Nat.beq pc 57) (some (.return_, 1)) none)))))
def q_gX1_hasWall (pc : Nat) : Option (Instr × Nat) := cond (Nat.ble pc 6) (cond (Nat.ble pc 1) (cond (Nat.ble pc 0) (cond (Nat.beq pc 0) (some (.aload_n 0, 1)) none) (cond (Nat.beq pc 1) (some (.getfield 24, 3)) none)) (cond (Nat.ble pc 4) (cond (Nat.beq pc 4) (some (.bipush (-4), 2)) none) (cond (Nat.beq pc 6) (some (.if_icmp .eq 7, 3)) none))) (cond (Nat.ble pc 10) (cond (Nat.ble pc 9) (cond (Nat.beq pc 9) (some (.iconst 1, 1)) none) (cond (Nat.beq pc 10) (some (.goto 4, 3)) none)) (cond (Nat.ble pc 13) (cond (Nat.beq pc 13) (some (.iconst 0, 1)) none) (cond (Nat.beq pc 14) (some (.ireturn, 1)) none)))
def q_gX1_askFor (pc : Nat) : Option (Instr × Nat) := cond (Nat.ble pc 10) (cond (Nat.ble pc 4) (cond (Nat.ble pc 0) (cond (Nat.beq pc 0) (some (.iload_n 1, 1)) none) (cond (Nat.ble pc 1) (cond (Nat.beq pc 1) (some (.ifCond .lt 9, 3)) none) (cond (Nat.beq pc 4) (some (.iload_n 1, 1)) none))) (cond (Nat.ble pc 5) (cond (Nat.beq pc 5) (some (.bipush 30, 2)) none) (cond (Nat.ble pc 7) (cond (Nat.beq pc 7) (some (.if_icmp .lt 8, 3)) none) (cond (Nat.beq pc 10) (some (.bipush (-4), 2)) none)))) (cond (Nat.ble pc 16) (cond (Nat.ble pc 12) (cond (Nat.beq pc 12) (some (.goto 9, 3)) none) (cond (Nat.ble pc 15) (cond (Nat.beq pc 15) (some (.aload_n 0, 1)) none) (cond (Nat.beq pc 16) (some (.getfield 11, 3)) none))) (cond (Nat.ble pc 19) (cond (Nat.beq pc 19) (some (.iload_n 1, 1)) none) (cond (Nat.ble pc 20) (cond (Nat.beq pc 20) (some (.iaload, 1)) none) (cond (Nat.beq pc 21) (some (.ireturn, 1)) none))))
def q_gX1_setAsk (pc : Nat) : Option (Instr × Nat) := cond (Nat.ble pc 7) (cond (Nat.ble pc 1) (cond (Nat.ble pc 0) (cond (Nat.beq pc 0) (some (.iload_n 1, 1)) none) (cond (Nat.beq pc 1) (some (.ifCond .lt 16, 3)) none)) (cond (Nat.ble pc 4) (cond (Nat.beq pc 4) (some (.iload_n 1, 1)) none) (cond (Nat.ble pc 5) (cond (Nat.beq pc 5) (some (.bipush 30, 2)) none) (cond (Nat.beq pc 7) (some (.if_icmp .ge 10, 3)) none)))) (cond (Nat.ble pc 14) (cond (Nat.ble pc 10) (cond (Nat.beq pc 10) (some (.aload_n 0, 1)) none) (cond (Nat.ble pc 11) (cond (Nat.beq pc 11) (some (.getfield 11, 3)) none) (cond (Nat.beq pc 14) (some (.iload_n 1, 1)) none))) (cond (Nat.ble pc 15) (cond (Nat.beq pc 15) (some (.iload_n 2, 1)) none) (cond (Nat.ble pc 16) (cond (Nat.beq pc 16) (some (.iastore, 1)) none) (cond (Nat.beq pc 17) (some (.return_, 1)) none))))
def q_gX1_take (pc : Nat) : Option (Instr × Nat) := cond (Nat.ble pc 8) (cond (Nat.ble pc 2) (cond (Nat.ble pc 0) (cond (Nat.beq pc 0) (some (.aload_n 0, 1)) none) (cond (Nat.ble pc 1) (cond (Nat.beq pc 1) (some (.iload_n 1, 1)) none) (cond (Nat.beq pc 2) (some (.putfield 24, 3)) none))) (cond (Nat.ble pc 6) (cond (Nat.ble pc 5) (cond (Nat.beq pc 5) (some (.aload_n 0, 1)) none) (cond (Nat.beq pc 6) (some (.aload_n 0, 1)) none)) (cond (Nat.ble pc 7) (cond (Nat.beq pc 7) (some (.iload_n 1, 1)) none) (cond (Nat.beq pc 8) (some (.invokevirtual 46, 3)) none)))) (cond (Nat.ble pc 16) (cond (Nat.ble pc 14) (cond (Nat.ble pc 11) (cond (Nat.beq pc 11) (some (.putfield 27, 3)) none) (cond (Nat.beq pc 14) (some (.aload_n 0, 1)) none)) (cond (Nat.ble pc 15) (cond (Nat.beq pc 15) (some (.dup, 1)) none) (cond (Nat.beq pc 16) (some (.getfield 21, 3)) none))) (cond (Nat.ble pc 20) (cond (Nat.ble pc 19) (cond (Nat.beq pc 19) (some (.iconst 1, 1)) none) (cond (Nat.beq pc 20) (some (.iadd, 1)) none)) (cond (Nat.ble pc 21) (cond (Nat.beq pc 21) (some (.putfield 21, 3)) none) (cond (Nat.beq pc 24) (some (.return_, 1)) none))))
def q_gX1_endMonth (pc : Nat) : Option (Instr × Nat) := cond (Nat.ble pc 12) (cond (Nat.ble pc 4) (cond (Nat.ble pc 0) (cond (Nat.beq pc 0) (some (.aload_n 0, 1)) none) (cond (Nat.ble pc 1) (cond (Nat.beq pc 1) (some (.getfield 11, 3)) none) (cond (Nat.beq pc 4) (some (.bipush (-4), 2)) none))) (cond (Nat.ble pc 9) (cond (Nat.ble pc 6) (cond (Nat.beq pc 6) (some (.invokestatic 40, 3)) none) (cond (Nat.beq pc 9) (some (.aload_n 0, 1)) none)) (cond (Nat.ble pc 10) (cond (Nat.beq pc 10) (some (.bipush (-4), 2)) none) (cond (Nat.beq pc 12) (some (.putfield 24, 3)) none)))) (cond (Nat.ble pc 17) (cond (Nat.ble pc 15) (cond (Nat.beq pc 15) (some (.aload_n 0, 1)) none) (cond (Nat.ble pc 16) (cond (Nat.beq pc 16) (some (.iconst 0, 1)) none) (cond (Nat.beq pc 17) (some (.putfield 27, 3)) none))) (cond (Nat.ble pc 21) (cond (Nat.ble pc 20) (cond (Nat.beq pc 20) (some (.aload_n 0, 1)) none) (cond (Nat.beq pc 21) (some (.iconst 0, 1)) none)) (cond (Nat.ble pc 22) (cond (Nat.beq pc 22) (some (.putfield 33, 3)) none) (cond (Nat.beq pc 25) (some (.return_, 1)) none))))
def q_gX1_shareOf (pc : Nat) : Option (Instr × Nat) := cond (Nat.ble pc 16) (cond (Nat.ble pc 5) (cond (Nat.ble pc 1) (cond (Nat.ble pc 0) (cond (Nat.beq pc 0) (some (.aload_n 0, 1)) none) (cond (Nat.beq pc 1) (some (.getfield 37, 3)) none)) (cond (Nat.ble pc 4) (cond (Nat.beq pc 4) (some (.iconst 1, 1)) none) (cond (Nat.beq pc 5) (some (.if_icmp .ge 7, 3)) none))) (cond (Nat.ble pc 9) (cond (Nat.ble pc 8) (cond (Nat.beq pc 8) (some (.iconst 0, 1)) none) (cond (Nat.beq pc 9) (some (.goto 20, 3)) none)) (cond (Nat.ble pc 12) (cond (Nat.beq pc 12) (some (.aload_n 0, 1)) none) (cond (Nat.ble pc 13) (cond (Nat.beq pc 13) (some (.getfield 17, 3)) none) (cond (Nat.beq pc 16) (some (.i2l, 1)) none))))) (cond (Nat.ble pc 20) (cond (Nat.ble pc 18) (cond (Nat.ble pc 17) (cond (Nat.beq pc 17) (some (.iload_n 1, 1)) none) (cond (Nat.beq pc 18) (some (.i2l, 1)) none)) (cond (Nat.ble pc 19) (cond (Nat.beq pc 19) (some (.lmul, 1)) none) (cond (Nat.beq pc 20) (some (.aload_n 0, 1)) none))) (cond (Nat.ble pc 24) (cond (Nat.ble pc 21) (cond (Nat.beq pc 21) (some (.getfield 37, 3)) none) (cond (Nat.beq pc 24) (some (.i2l, 1)) none)) (cond (Nat.ble pc 25) (cond (Nat.beq pc 25) (some (.invokestatic 50, 3)) none) (cond (Nat.ble pc 28) (cond (Nat.beq pc 28) (some (.l2i, 1)) none) (cond (Nat.beq pc 29) (some (.ireturn, 1)) none)))))
def q_gX1_takePay (pc : Nat) : Option (Instr × Nat) := cond (Nat.ble pc 23) (cond (Nat.ble pc 10) (cond (Nat.ble pc 2) (cond (Nat.ble pc 0) (cond (Nat.beq pc 0) (some (.aload_n 0, 1)) none) (cond (Nat.ble pc 1) (cond (Nat.beq pc 1) (some (.dup, 1)) none) (cond (Nat.beq pc 2) (some (.getfield 17, 3)) none))) (cond (Nat.ble pc 6) (cond (Nat.ble pc 5) (cond (Nat.beq pc 5) (some (.iload_n 1, 1)) none) (cond (Nat.beq pc 6) (some (.iadd, 1)) none)) (cond (Nat.ble pc 7) (cond (Nat.beq pc 7) (some (.putfield 17, 3)) none) (cond (Nat.beq pc 10) (some (.aload_n 0, 1)) none)))) (cond (Nat.ble pc 17) (cond (Nat.ble pc 11) (cond (Nat.beq pc 11) (some (.getfield 33, 3)) none) (cond (Nat.ble pc 14) (cond (Nat.beq pc 14) (some (.ifCond .ne 23, 3)) none) (cond (Nat.beq pc 17) (some (.aload_n 0, 1)) none))) (cond (Nat.ble pc 19) (cond (Nat.ble pc 18) (cond (Nat.beq pc 18) (some (.dup, 1)) none) (cond (Nat.beq pc 19) (some (.getfield 17, 3)) none)) (cond (Nat.ble pc 22) (cond (Nat.beq pc 22) (some (.iload_n 2, 1)) none) (cond (Nat.beq pc 23) (some (.aload_n 0, 1)) none))))) (cond (Nat.ble pc 34) (cond (Nat.ble pc 28) (cond (Nat.ble pc 24) (cond (Nat.beq pc 24) (some (.getfield 37, 3)) none) (cond (Nat.ble pc 27) (cond (Nat.beq pc 27) (some (.imul, 1)) none) (cond (Nat.beq pc 28) (some (.isub, 1)) none))) (cond (Nat.ble pc 32) (cond (Nat.ble pc 29) (cond (Nat.beq pc 29) (some (.putfield 17, 3)) none) (cond (Nat.beq pc 32) (some (.aload_n 0, 1)) none)) (cond (Nat.ble pc 33) (cond (Nat.beq pc 33) (some (.iconst 1, 1)) none) (cond (Nat.beq pc 34) (some (.putfield 33, 3)) none)))) (cond (Nat.ble pc 39) (cond (Nat.ble pc 37) (cond (Nat.beq pc 37) (some (.aload_n 0, 1)) none) (cond (Nat.ble pc 38) (cond (Nat.beq pc 38) (some (.dup, 1)) none) (cond (Nat.beq pc 39) (some (.getfield 30, 3)) none))) (cond (Nat.ble pc 43) (cond (Nat.ble pc 42) (cond (Nat.beq pc 42) (some (.iconst 1, 1)) none) (cond (Nat.beq pc 43) (some (.iadd, 1)) none)) (cond (Nat.ble pc 44) (cond (Nat.beq pc 44) (some (.putfield 30, 3)) none) (cond (Nat.beq pc 47) (some (.return_, 1)) none)))))
def q_gX2_init (pc : Nat) : Option (Instr × Nat) := cond (Nat.ble pc 20) (cond (Nat.ble pc 8) (cond (Nat.ble pc 4) (cond (Nat.ble pc 0) (cond (Nat.beq pc 0) (some (.aload_n 0, 1)) none) (cond (Nat.ble pc 1) (cond (Nat.beq pc 1) (some (.invokespecial 3, 3)) none) (cond (Nat.beq pc 4) (some (.aload_n 0, 1)) none))) (cond (Nat.ble pc 5) (cond (Nat.beq pc 5) (some (.iconst 4, 1)) none) (cond (Nat.ble pc 6) (cond (Nat.beq pc 6) (some (.newarray .int, 2)) none) (cond (Nat.beq pc 8) (some (.putfield 11, 3)) none)))) (cond (Nat.ble pc 13) (cond (Nat.ble pc 11) (cond (Nat.beq pc 11) (some (.aload_n 0, 1)) none) (cond (Nat.ble pc 12) (cond (Nat.beq pc 12) (some (.iconst 4, 1)) none) (cond (Nat.beq pc 13) (some (.newarray .boolean, 2)) none))) (cond (Nat.ble pc 18) (cond (Nat.ble pc 15) (cond (Nat.beq pc 15) (some (.putfield 15, 3)) none) (cond (Nat.beq pc 18) (some (.aload_n 0, 1)) none)) (cond (Nat.ble pc 19) (cond (Nat.beq pc 19) (some (.iconst 4, 1)) none) (cond (Nat.beq pc 20) (some (.newarray .int, 2)) none))))) (cond (Nat.ble pc 33) (cond (Nat.ble pc 26) (cond (Nat.ble pc 22) (cond (Nat.beq pc 22) (some (.putfield 19, 3)) none) (cond (Nat.ble pc 25) (cond (Nat.beq pc 25) (some (.aload_n 0, 1)) none) (cond (Nat.beq pc 26) (some (.iconst 4, 1)) none))) (cond (Nat.ble pc 29) (cond (Nat.ble pc 27) (cond (Nat.beq pc 27) (some (.newarray .int, 2)) none) (cond (Nat.beq pc 29) (some (.putfield 22, 3)) none)) (cond (Nat.ble pc 32) (cond (Nat.beq pc 32) (some (.aload_n 0, 1)) none) (cond (Nat.beq pc 33) (some (.iconst 0, 1)) none)))) (cond (Nat.ble pc 38) (cond (Nat.ble pc 34) (cond (Nat.beq pc 34) (some (.putfield 25, 3)) none) (cond (Nat.ble pc 37) (cond (Nat.beq pc 37) (some (.aload_n 0, 1)) none) (cond (Nat.beq pc 38) (some (.iconst 0, 1)) none))) (cond (Nat.ble pc 42) (cond (Nat.ble pc 39) (cond (Nat.beq pc 39) (some (.putfield 29, 3)) none) (cond (Nat.beq pc 42) (some (.aload_n 0, 1)) none)) (cond (Nat.ble pc 43) (cond (Nat.beq pc 43) (some (.invokevirtual 32, 3)) none) (cond (Nat.beq pc 46) (some (.return_, 1)) none)))))
def q_gX2_nameOf (pc : Nat) : Option (Instr × Nat) := cond (Nat.ble pc 37) (cond (Nat.ble pc 32) (cond (Nat.ble pc 0) (cond (Nat.beq pc 0) (some (.iload_n 0, 1)) none) (cond (Nat.ble pc 1) (cond (Nat.beq pc 1) (some (.tableswitch 43 0 3 #[31, 34, 37, 40], 31)) none) (cond (Nat.beq pc 32) (some (.ldc 35, 2)) none))) (cond (Nat.ble pc 34) (cond (Nat.beq pc 34) (some (.areturn, 1)) none) (cond (Nat.ble pc 35) (cond (Nat.beq pc 35) (some (.ldc 37, 2)) none) (cond (Nat.beq pc 37) (some (.areturn, 1)) none)))) (cond (Nat.ble pc 41) (cond (Nat.ble pc 38) (cond (Nat.beq pc 38) (some (.ldc 39, 2)) none) (cond (Nat.ble pc 40) (cond (Nat.beq pc 40) (some (.areturn, 1)) none) (cond (Nat.beq pc 41) (some (.ldc 41, 2)) none))) (cond (Nat.ble pc 43) (cond (Nat.beq pc 43) (some (.areturn, 1)) none) (cond (Nat.ble pc 44) (cond (Nat.beq pc 44) (some (.ldc 43, 2)) none) (cond (Nat.beq pc 46) (some (.areturn, 1)) none))))
def q_gX2_forget (pc : Nat) : Option (Instr × Nat) := cond (Nat.ble pc 18) (cond (Nat.ble pc 7) (cond (Nat.ble pc 2) (cond (Nat.ble pc 0) (cond (Nat.beq pc 0) (some (.iconst 0, 1)) none) (cond (Nat.ble pc 1) (cond (Nat.beq pc 1) (some (.istore_n 1, 1)) none) (cond (Nat.beq pc 2) (some (.iload_n 1, 1)) none))) (cond (Nat.ble pc 3) (cond (Nat.beq pc 3) (some (.iconst 4, 1)) none) (cond (Nat.ble pc 4) (cond (Nat.beq pc 4) (some (.if_icmp .ge 27, 3)) none) (cond (Nat.beq pc 7) (some (.aload_n 0, 1)) none)))) (cond (Nat.ble pc 12) (cond (Nat.ble pc 8) (cond (Nat.beq pc 8) (some (.getfield 11, 3)) none) (cond (Nat.ble pc 11) (cond (Nat.beq pc 11) (some (.iload_n 1, 1)) none) (cond (Nat.beq pc 12) (some (.getstatic 45, 3)) none))) (cond (Nat.ble pc 16) (cond (Nat.ble pc 15) (cond (Nat.beq pc 15) (some (.iload_n 1, 1)) none) (cond (Nat.beq pc 16) (some (.iaload, 1)) none)) (cond (Nat.ble pc 17) (cond (Nat.beq pc 17) (some (.iastore, 1)) none) (cond (Nat.beq pc 18) (some (.aload_n 0, 1)) none))))) (cond (Nat.ble pc 28) (cond (Nat.ble pc 23) (cond (Nat.ble pc 19) (cond (Nat.beq pc 19) (some (.getfield 15, 3)) none) (cond (Nat.ble pc 22) (cond (Nat.beq pc 22) (some (.iload_n 1, 1)) none) (cond (Nat.beq pc 23) (some (.iconst 0, 1)) none))) (cond (Nat.ble pc 24) (cond (Nat.beq pc 24) (some (.bastore, 1)) none) (cond (Nat.ble pc 25) (cond (Nat.beq pc 25) (some (.iinc 1 1, 3)) none) (cond (Nat.beq pc 28) (some (.goto (-26), 3)) none)))) (cond (Nat.ble pc 33) (cond (Nat.ble pc 31) (cond (Nat.beq pc 31) (some (.aload_n 0, 1)) none) (cond (Nat.ble pc 32) (cond (Nat.beq pc 32) (some (.iconst 0, 1)) none) (cond (Nat.beq pc 33) (some (.putfield 25, 3)) none))) (cond (Nat.ble pc 37) (cond (Nat.ble pc 36) (cond (Nat.beq pc 36) (some (.aload_n 0, 1)) none) (cond (Nat.beq pc 37) (some (.iconst 0, 1)) none)) (cond (Nat.ble pc 38) (cond (Nat.beq pc 38) (some (.putfield 29, 3)) none) (cond (Nat.beq pc 41) (some (.return_, 1)) none)))))
def q_gX2_isNumberLaw (pc : Nat) : Option (Instr × Nat) := cond (Nat.ble pc 5) (cond (Nat.ble pc 1) (cond (Nat.ble pc 0) (cond (Nat.beq pc 0) (some (.iload_n 0, 1)) none) (cond (Nat.beq pc 1) (some (.ifCond .lt 12, 3)) none)) (cond (Nat.ble pc 4) (cond (Nat.beq pc 4) (some (.iload_n 0, 1)) none) (cond (Nat.beq pc 5) (some (.iconst 4, 1)) none))) (cond (Nat.ble pc 9) (cond (Nat.ble pc 6) (cond (Nat.beq pc 6) (some (.if_icmp .ge 7, 3)) none) (cond (Nat.beq pc 9) (some (.iconst 1, 1)) none)) (cond (Nat.ble pc 10) (cond (Nat.beq pc 10) (some (.goto 4, 3)) none) (cond (Nat.ble pc 13) (cond (Nat.beq pc 13) (some (.iconst 0, 1)) none) (cond (Nat.beq pc 14) (some (.ireturn, 1)) none))))
def q_gX2_mayTell (pc : Nat) : Option (Instr × Nat) := cond (Nat.ble pc 17) (cond (Nat.ble pc 8) (cond (Nat.ble pc 1) (cond (Nat.ble pc 0) (cond (Nat.beq pc 0) (some (.iload_n 1, 1)) none) (cond (Nat.beq pc 1) (some (.invokestatic 48, 3)) none)) (cond (Nat.ble pc 4) (cond (Nat.beq pc 4) (some (.ifCond .eq 20, 3)) none) (cond (Nat.ble pc 7) (cond (Nat.beq pc 7) (some (.aload_n 0, 1)) none) (cond (Nat.beq pc 8) (some (.getfield 15, 3)) none)))) (cond (Nat.ble pc 12) (cond (Nat.ble pc 11) (cond (Nat.beq pc 11) (some (.iload_n 1, 1)) none) (cond (Nat.beq pc 12) (some (.baload, 1)) none)) (cond (Nat.ble pc 13) (cond (Nat.beq pc 13) (some (.ifCond .ne 7, 3)) none) (cond (Nat.ble pc 16) (cond (Nat.beq pc 16) (some (.iconst 1, 1)) none) (cond (Nat.beq pc 17) (some (.goto 20, 3)) none))))) (cond (Nat.ble pc 28) (cond (Nat.ble pc 21) (cond (Nat.ble pc 20) (cond (Nat.beq pc 20) (some (.iconst 0, 1)) none) (cond (Nat.beq pc 21) (some (.goto 16, 3)) none)) (cond (Nat.ble pc 24) (cond (Nat.beq pc 24) (some (.aload_n 0, 1)) none) (cond (Nat.ble pc 25) (cond (Nat.beq pc 25) (some (.getfield 25, 3)) none) (cond (Nat.beq pc 28) (some (.iconst 4, 1)) none)))) (cond (Nat.ble pc 32) (cond (Nat.ble pc 29) (cond (Nat.beq pc 29) (some (.if_icmp .ge 7, 3)) none) (cond (Nat.beq pc 32) (some (.iconst 1, 1)) none)) (cond (Nat.ble pc 33) (cond (Nat.beq pc 33) (some (.goto 4, 3)) none) (cond (Nat.ble pc 36) (cond (Nat.beq pc 36) (some (.iconst 0, 1)) none) (cond (Nat.beq pc 37) (some (.ireturn, 1)) none)))))
def q_gX2_isInBounds (pc : Nat) : Option (Instr × Nat) := cond (Nat.ble pc 14) (cond (Nat.ble pc 5) (cond (Nat.ble pc 1) (cond (Nat.ble pc 0) (cond (Nat.beq pc 0) (some (.iload_n 0, 1)) none) (cond (Nat.beq pc 1) (some (.ifCond .lt 30, 3)) none)) (cond (Nat.ble pc 4) (cond (Nat.beq pc 4) (some (.iload_n 0, 1)) none) (cond (Nat.beq pc 5) (some (.iconst 4, 1)) none))) (cond (Nat.ble pc 9) (cond (Nat.ble pc 6) (cond (Nat.beq pc 6) (some (.if_icmp .gt 25, 3)) none) (cond (Nat.beq pc 9) (some (.iload_n 1, 1)) none)) (cond (Nat.ble pc 10) (cond (Nat.beq pc 10) (some (.getstatic 52, 3)) none) (cond (Nat.ble pc 13) (cond (Nat.beq pc 13) (some (.iload_n 0, 1)) none) (cond (Nat.beq pc 14) (some (.iaload, 1)) none))))) (cond (Nat.ble pc 23) (cond (Nat.ble pc 18) (cond (Nat.ble pc 15) (cond (Nat.beq pc 15) (some (.if_icmp .lt 16, 3)) none) (cond (Nat.beq pc 18) (some (.iload_n 1, 1)) none)) (cond (Nat.ble pc 19) (cond (Nat.beq pc 19) (some (.getstatic 55, 3)) none) (cond (Nat.ble pc 22) (cond (Nat.beq pc 22) (some (.iload_n 0, 1)) none) (cond (Nat.beq pc 23) (some (.iaload, 1)) none)))) (cond (Nat.ble pc 27) (cond (Nat.ble pc 24) (cond (Nat.beq pc 24) (some (.if_icmp .gt 7, 3)) none) (cond (Nat.beq pc 27) (some (.iconst 1, 1)) none)) (cond (Nat.ble pc 28) (cond (Nat.beq pc 28) (some (.goto 4, 3)) none) (cond (Nat.ble pc 31) (cond (Nat.beq pc 31) (some (.iconst 0, 1)) none) (cond (Nat.beq pc 32) (some (.ireturn, 1)) none)))))
def q_gX2_isPoundage (pc : Nat) : Option (Instr × Nat) := cond (Nat.ble pc 5) (cond (Nat.ble pc 1) (cond (Nat.ble pc 0) (cond (Nat.beq pc 0) (some (.iload_n 0, 1)) none) (cond (Nat.beq pc 1) (some (.ifCond .lt 14, 3)) none)) (cond (Nat.ble pc 4) (cond (Nat.beq pc 4) (some (.iload_n 0, 1)) none) (cond (Nat.beq pc 5) (some (.sipush 300, 3)) none))) (cond (Nat.ble pc 11) (cond (Nat.ble pc 8) (cond (Nat.beq pc 8) (some (.if_icmp .gt 7, 3)) none) (cond (Nat.beq pc 11) (some (.iconst 1, 1)) none)) (cond (Nat.ble pc 12) (cond (Nat.beq pc 12) (some (.goto 4, 3)) none) (cond (Nat.ble pc 15) (cond (Nat.beq pc 15) (some (.iconst 0, 1)) none) (cond (Nat.beq pc 16) (some (.ireturn, 1)) none))))
def q_gX2_isAbovePounds (pc : Nat) : Option (Instr × Nat) := cond (Nat.ble pc 17) (cond (Nat.ble pc 8) (cond (Nat.ble pc 1) (cond (Nat.ble pc 0) (cond (Nat.beq pc 0) (some (.aload_n 0, 1)) none) (cond (Nat.beq pc 1) (some (.getfield 25, 3)) none)) (cond (Nat.ble pc 4) (cond (Nat.beq pc 4) (some (.iconst 1, 1)) none) (cond (Nat.ble pc 5) (cond (Nat.beq pc 5) (some (.if_icmp .lt 26, 3)) none) (cond (Nat.beq pc 8) (some (.aload_n 0, 1)) none)))) (cond (Nat.ble pc 12) (cond (Nat.ble pc 9) (cond (Nat.beq pc 9) (some (.getfield 25, 3)) none) (cond (Nat.beq pc 12) (some (.iconst 4, 1)) none)) (cond (Nat.ble pc 13) (cond (Nat.beq pc 13) (some (.if_icmp .gt 18, 3)) none) (cond (Nat.ble pc 16) (cond (Nat.beq pc 16) (some (.iload_n 1, 1)) none) (cond (Nat.beq pc 17) (some (.aload_n 0, 1)) none))))) (cond (Nat.ble pc 26) (cond (Nat.ble pc 21) (cond (Nat.ble pc 18) (cond (Nat.beq pc 18) (some (.getfield 19, 3)) none) (cond (Nat.beq pc 21) (some (.aload_n 0, 1)) none)) (cond (Nat.ble pc 22) (cond (Nat.beq pc 22) (some (.getfield 25, 3)) none) (cond (Nat.ble pc 25) (cond (Nat.beq pc 25) (some (.iconst 1, 1)) none) (cond (Nat.beq pc 26) (some (.isub, 1)) none)))) (cond (Nat.ble pc 31) (cond (Nat.ble pc 27) (cond (Nat.beq pc 27) (some (.iaload, 1)) none) (cond (Nat.ble pc 28) (cond (Nat.beq pc 28) (some (.if_icmp .le 7, 3)) none) (cond (Nat.beq pc 31) (some (.iconst 1, 1)) none))) (cond (Nat.ble pc 32) (cond (Nat.beq pc 32) (some (.goto 4, 3)) none) (cond (Nat.ble pc 35) (cond (Nat.beq pc 35) (some (.iconst 0, 1)) none) (cond (Nat.beq pc 36) (some (.ireturn, 1)) none)))))
def q_gX2_tell (pc : Nat) : Option (Instr × Nat) := cond (Nat.ble pc 39) (cond (Nat.ble pc 19) (cond (Nat.ble pc 11) (cond (Nat.ble pc 4) (cond (Nat.ble pc 0) (cond (Nat.beq pc 0) (some (.iload_n 1, 1)) none) (cond (Nat.ble pc 1) (cond (Nat.beq pc 1) (some (.invokestatic 48, 3)) none) (cond (Nat.beq pc 4) (some (.ifCond .eq 30, 3)) none))) (cond (Nat.ble pc 7) (cond (Nat.beq pc 7) (some (.aload_n 0, 1)) none) (cond (Nat.ble pc 8) (cond (Nat.beq pc 8) (some (.getfield 11, 3)) none) (cond (Nat.beq pc 11) (some (.iload_n 1, 1)) none)))) (cond (Nat.ble pc 14) (cond (Nat.ble pc 12) (cond (Nat.beq pc 12) (some (.iload_n 2, 1)) none) (cond (Nat.ble pc 13) (cond (Nat.beq pc 13) (some (.iastore, 1)) none) (cond (Nat.beq pc 14) (some (.aload_n 0, 1)) none))) (cond (Nat.ble pc 15) (cond (Nat.beq pc 15) (some (.getfield 15, 3)) none) (cond (Nat.ble pc 18) (cond (Nat.beq pc 18) (some (.iload_n 1, 1)) none) (cond (Nat.beq pc 19) (some (.iconst 1, 1)) none))))) (cond (Nat.ble pc 27) (cond (Nat.ble pc 22) (cond (Nat.ble pc 20) (cond (Nat.beq pc 20) (some (.bastore, 1)) none) (cond (Nat.ble pc 21) (cond (Nat.beq pc 21) (some (.aload_n 0, 1)) none) (cond (Nat.beq pc 22) (some (.dup, 1)) none))) (cond (Nat.ble pc 23) (cond (Nat.beq pc 23) (some (.getfield 29, 3)) none) (cond (Nat.ble pc 26) (cond (Nat.beq pc 26) (some (.iconst 1, 1)) none) (cond (Nat.beq pc 27) (some (.iadd, 1)) none)))) (cond (Nat.ble pc 34) (cond (Nat.ble pc 28) (cond (Nat.beq pc 28) (some (.putfield 29, 3)) none) (cond (Nat.ble pc 31) (cond (Nat.beq pc 31) (some (.goto 51, 3)) none) (cond (Nat.beq pc 34) (some (.aload_n 0, 1)) none))) (cond (Nat.ble pc 35) (cond (Nat.beq pc 35) (some (.getfield 25, 3)) none) (cond (Nat.ble pc 38) (cond (Nat.beq pc 38) (some (.iconst 4, 1)) none) (cond (Nat.beq pc 39) (some (.if_icmp .ge 43, 3)) none)))))) (cond (Nat.ble pc 61) (cond (Nat.ble pc 51) (cond (Nat.ble pc 46) (cond (Nat.ble pc 42) (cond (Nat.beq pc 42) (some (.aload_n 0, 1)) none) (cond (Nat.ble pc 43) (cond (Nat.beq pc 43) (some (.getfield 19, 3)) none) (cond (Nat.beq pc 46) (some (.aload_n 0, 1)) none))) (cond (Nat.ble pc 47) (cond (Nat.beq pc 47) (some (.getfield 25, 3)) none) (cond (Nat.ble pc 50) (cond (Nat.beq pc 50) (some (.iload_n 2, 1)) none) (cond (Nat.beq pc 51) (some (.iastore, 1)) none)))) (cond (Nat.ble pc 56) (cond (Nat.ble pc 52) (cond (Nat.beq pc 52) (some (.aload_n 0, 1)) none) (cond (Nat.ble pc 53) (cond (Nat.beq pc 53) (some (.getfield 22, 3)) none) (cond (Nat.beq pc 56) (some (.aload_n 0, 1)) none))) (cond (Nat.ble pc 57) (cond (Nat.beq pc 57) (some (.getfield 25, 3)) none) (cond (Nat.ble pc 60) (cond (Nat.beq pc 60) (some (.iload_n 3, 1)) none) (cond (Nat.beq pc 61) (some (.iastore, 1)) none))))) (cond (Nat.ble pc 69) (cond (Nat.ble pc 64) (cond (Nat.ble pc 62) (cond (Nat.beq pc 62) (some (.aload_n 0, 1)) none) (cond (Nat.ble pc 63) (cond (Nat.beq pc 63) (some (.dup, 1)) none) (cond (Nat.beq pc 64) (some (.getfield 25, 3)) none))) (cond (Nat.ble pc 67) (cond (Nat.beq pc 67) (some (.iconst 1, 1)) none) (cond (Nat.ble pc 68) (cond (Nat.beq pc 68) (some (.iadd, 1)) none) (cond (Nat.beq pc 69) (some (.putfield 25, 3)) none)))) (cond (Nat.ble pc 74) (cond (Nat.ble pc 72) (cond (Nat.beq pc 72) (some (.aload_n 0, 1)) none) (cond (Nat.ble pc 73) (cond (Nat.beq pc 73) (some (.dup, 1)) none) (cond (Nat.beq pc 74) (some (.getfield 29, 3)) none))) (cond (Nat.ble pc 78) (cond (Nat.ble pc 77) (cond (Nat.beq pc 77) (some (.iconst 1, 1)) none) (cond (Nat.beq pc 78) (some (.iadd, 1)) none)) (cond (Nat.ble pc 79) (cond (Nat.beq pc 79) (some (.putfield 29, 3)) none) (cond (Nat.beq pc 82) (some (.return_, 1)) none))))))
def q_gX2_numberOf (pc : Nat) : Option (Instr × Nat) := cond (Nat.ble pc 8) (cond (Nat.ble pc 1) (cond (Nat.ble pc 0) (cond (Nat.beq pc 0) (some (.iload_n 1, 1)) none) (cond (Nat.beq pc 1) (some (.invokestatic 48, 3)) none)) (cond (Nat.ble pc 4) (cond (Nat.beq pc 4) (some (.ifCond .eq 12, 3)) none) (cond (Nat.ble pc 7) (cond (Nat.beq pc 7) (some (.aload_n 0, 1)) none) (cond (Nat.beq pc 8) (some (.getfield 11, 3)) none)))) (cond (Nat.ble pc 12) (cond (Nat.ble pc 11) (cond (Nat.beq pc 11) (some (.iload_n 1, 1)) none) (cond (Nat.beq pc 12) (some (.iaload, 1)) none)) (cond (Nat.ble pc 13) (cond (Nat.beq pc 13) (some (.goto 5, 3)) none) (cond (Nat.ble pc 16) (cond (Nat.beq pc 16) (some (.bipush (-4), 2)) none) (cond (Nat.beq pc 18) (some (.ireturn, 1)) none))))
def q_gX2_poundageOf (pc : Nat) : Option (Instr × Nat) := cond (Nat.ble pc 19) (cond (Nat.ble pc 7) (cond (Nat.ble pc 2) (cond (Nat.ble pc 0) (cond (Nat.beq pc 0) (some (.iconst 0, 1)) none) (cond (Nat.ble pc 1) (cond (Nat.beq pc 1) (some (.istore_n 2, 1)) none) (cond (Nat.beq pc 2) (some (.iload_n 2, 1)) none))) (cond (Nat.ble pc 3) (cond (Nat.beq pc 3) (some (.aload_n 0, 1)) none) (cond (Nat.ble pc 4) (cond (Nat.beq pc 4) (some (.getfield 25, 3)) none) (cond (Nat.beq pc 7) (some (.if_icmp .ge 31, 3)) none)))) (cond (Nat.ble pc 12) (cond (Nat.ble pc 10) (cond (Nat.beq pc 10) (some (.iload_n 2, 1)) none) (cond (Nat.ble pc 11) (cond (Nat.beq pc 11) (some (.iconst 4, 1)) none) (cond (Nat.beq pc 12) (some (.if_icmp .ge 26, 3)) none))) (cond (Nat.ble pc 15) (cond (Nat.beq pc 15) (some (.aload_n 0, 1)) none) (cond (Nat.ble pc 16) (cond (Nat.beq pc 16) (some (.getfield 19, 3)) none) (cond (Nat.beq pc 19) (some (.iload_n 2, 1)) none))))) (cond (Nat.ble pc 29) (cond (Nat.ble pc 22) (cond (Nat.ble pc 20) (cond (Nat.beq pc 20) (some (.iaload, 1)) none) (cond (Nat.ble pc 21) (cond (Nat.beq pc 21) (some (.iload_n 1, 1)) none) (cond (Nat.beq pc 22) (some (.if_icmp .lt 10, 3)) none))) (cond (Nat.ble pc 25) (cond (Nat.beq pc 25) (some (.aload_n 0, 1)) none) (cond (Nat.ble pc 26) (cond (Nat.beq pc 26) (some (.getfield 22, 3)) none) (cond (Nat.beq pc 29) (some (.iload_n 2, 1)) none)))) (cond (Nat.ble pc 32) (cond (Nat.ble pc 30) (cond (Nat.beq pc 30) (some (.iaload, 1)) none) (cond (Nat.ble pc 31) (cond (Nat.beq pc 31) (some (.ireturn, 1)) none) (cond (Nat.beq pc 32) (some (.iinc 2 1, 3)) none))) (cond (Nat.ble pc 35) (cond (Nat.beq pc 35) (some (.goto (-33), 3)) none) (cond (Nat.ble pc 38) (cond (Nat.beq pc 38) (some (.iconst 0, 1)) none) (cond (Nat.beq pc 39) (some (.ireturn, 1)) none)))))
def q_gX2_letsAsk (pc : Nat) : Option (Instr × Nat) := cond (Nat.ble pc 12) (cond (Nat.ble pc 5) (cond (Nat.ble pc 1) (cond (Nat.ble pc 0) (cond (Nat.beq pc 0) (some (.aload_n 0, 1)) none) (cond (Nat.beq pc 1) (some (.getfield 11, 3)) none)) (cond (Nat.ble pc 4) (cond (Nat.beq pc 4) (some (.iconst 0, 1)) none) (cond (Nat.beq pc 5) (some (.iaload, 1)) none))) (cond (Nat.ble pc 8) (cond (Nat.ble pc 6) (cond (Nat.beq pc 6) (some (.bipush (-4), 2)) none) (cond (Nat.beq pc 8) (some (.if_icmp .eq 13, 3)) none)) (cond (Nat.ble pc 11) (cond (Nat.beq pc 11) (some (.iload_n 1, 1)) none) (cond (Nat.beq pc 12) (some (.aload_n 0, 1)) none)))) (cond (Nat.ble pc 18) (cond (Nat.ble pc 16) (cond (Nat.ble pc 13) (cond (Nat.beq pc 13) (some (.getfield 11, 3)) none) (cond (Nat.beq pc 16) (some (.iconst 0, 1)) none)) (cond (Nat.ble pc 17) (cond (Nat.beq pc 17) (some (.iaload, 1)) none) (cond (Nat.beq pc 18) (some (.if_icmp .gt 7, 3)) none))) (cond (Nat.ble pc 22) (cond (Nat.ble pc 21) (cond (Nat.beq pc 21) (some (.iconst 1, 1)) none) (cond (Nat.beq pc 22) (some (.goto 4, 3)) none)) (cond (Nat.ble pc 25) (cond (Nat.beq pc 25) (some (.iconst 0, 1)) none) (cond (Nat.beq pc 26) (some (.ireturn, 1)) none))))
def q_gX3_init (pc : Nat) : Option (Instr × Nat) := cond (Nat.ble pc 20) (cond (Nat.ble pc 8) (cond (Nat.ble pc 1) (cond (Nat.ble pc 0) (cond (Nat.beq pc 0) (some (.aload_n 0, 1)) none) (cond (Nat.beq pc 1) (some (.invokespecial 3, 3)) none)) (cond (Nat.ble pc 4) (cond (Nat.beq pc 4) (some (.aload_n 0, 1)) none) (cond (Nat.ble pc 5) (cond (Nat.beq pc 5) (some (.new 9, 3)) none) (cond (Nat.beq pc 8) (some (.dup, 1)) none)))) (cond (Nat.ble pc 15) (cond (Nat.ble pc 9) (cond (Nat.beq pc 9) (some (.invokespecial 11, 3)) none) (cond (Nat.ble pc 12) (cond (Nat.beq pc 12) (some (.putfield 12, 3)) none) (cond (Nat.beq pc 15) (some (.aload_n 0, 1)) none))) (cond (Nat.ble pc 16) (cond (Nat.beq pc 16) (some (.iconst 0, 1)) none) (cond (Nat.ble pc 17) (cond (Nat.beq pc 17) (some (.putfield 18, 3)) none) (cond (Nat.beq pc 20) (some (.aload_n 0, 1)) none))))) (cond (Nat.ble pc 30) (cond (Nat.ble pc 25) (cond (Nat.ble pc 21) (cond (Nat.beq pc 21) (some (.iconst 0, 1)) none) (cond (Nat.ble pc 22) (cond (Nat.beq pc 22) (some (.putfield 22, 3)) none) (cond (Nat.beq pc 25) (some (.aload_n 0, 1)) none))) (cond (Nat.ble pc 26) (cond (Nat.beq pc 26) (some (.iconst 0, 1)) none) (cond (Nat.ble pc 27) (cond (Nat.beq pc 27) (some (.putfield 25, 3)) none) (cond (Nat.beq pc 30) (some (.aload_n 0, 1)) none)))) (cond (Nat.ble pc 35) (cond (Nat.ble pc 31) (cond (Nat.beq pc 31) (some (.iconst 0, 1)) none) (cond (Nat.ble pc 32) (cond (Nat.beq pc 32) (some (.putfield 28, 3)) none) (cond (Nat.beq pc 35) (some (.aload_n 0, 1)) none))) (cond (Nat.ble pc 36) (cond (Nat.beq pc 36) (some (.iconst 0, 1)) none) (cond (Nat.ble pc 37) (cond (Nat.beq pc 37) (some (.putfield 31, 3)) none) (cond (Nat.beq pc 40) (some (.return_, 1)) none)))))
def q_gX3_read (pc : Nat) : Option (Instr × Nat) := cond (Nat.ble pc 23) (cond (Nat.ble pc 10) (cond (Nat.ble pc 2) (cond (Nat.ble pc 0) (cond (Nat.beq pc 0) (some (.aload_n 0, 1)) none) (cond (Nat.ble pc 1) (cond (Nat.beq pc 1) (some (.iconst 0, 1)) none) (cond (Nat.beq pc 2) (some (.putfield 18, 3)) none))) (cond (Nat.ble pc 6) (cond (Nat.ble pc 5) (cond (Nat.beq pc 5) (some (.aload_n 0, 1)) none) (cond (Nat.beq pc 6) (some (.iconst 0, 1)) none)) (cond (Nat.ble pc 7) (cond (Nat.beq pc 7) (some (.putfield 28, 3)) none) (cond (Nat.beq pc 10) (some (.aload_n 0, 1)) none)))) (cond (Nat.ble pc 15) (cond (Nat.ble pc 11) (cond (Nat.beq pc 11) (some (.invokevirtual 34, 3)) none) (cond (Nat.ble pc 14) (cond (Nat.beq pc 14) (some (.iconst 0, 1)) none) (cond (Nat.beq pc 15) (some (.istore_n 2, 1)) none))) (cond (Nat.ble pc 17) (cond (Nat.ble pc 16) (cond (Nat.beq pc 16) (some (.iload_n 2, 1)) none) (cond (Nat.beq pc 17) (some (.sipush 200, 3)) none)) (cond (Nat.ble pc 20) (cond (Nat.beq pc 20) (some (.if_icmp .ge 32, 3)) none) (cond (Nat.beq pc 23) (some (.aload_n 0, 1)) none))))) (cond (Nat.ble pc 38) (cond (Nat.ble pc 30) (cond (Nat.ble pc 24) (cond (Nat.beq pc 24) (some (.getfield 28, 3)) none) (cond (Nat.ble pc 27) (cond (Nat.beq pc 27) (some (.ifCond .ne 25, 3)) none) (cond (Nat.beq pc 30) (some (.aload_n 0, 1)) none))) (cond (Nat.ble pc 34) (cond (Nat.ble pc 31) (cond (Nat.beq pc 31) (some (.getfield 22, 3)) none) (cond (Nat.beq pc 34) (some (.ifCond .eq 18, 3)) none)) (cond (Nat.ble pc 37) (cond (Nat.beq pc 37) (some (.aload_n 0, 1)) none) (cond (Nat.beq pc 38) (some (.aload_n 1, 1)) none)))) (cond (Nat.ble pc 46) (cond (Nat.ble pc 42) (cond (Nat.ble pc 39) (cond (Nat.beq pc 39) (some (.invokevirtual 37, 3)) none) (cond (Nat.beq pc 42) (some (.aload_n 0, 1)) none)) (cond (Nat.ble pc 43) (cond (Nat.beq pc 43) (some (.invokevirtual 34, 3)) none) (cond (Nat.beq pc 46) (some (.iinc 2 1, 3)) none))) (cond (Nat.ble pc 52) (cond (Nat.ble pc 49) (cond (Nat.beq pc 49) (some (.goto (-33), 3)) none) (cond (Nat.beq pc 52) (some (.aload_n 0, 1)) none)) (cond (Nat.ble pc 53) (cond (Nat.beq pc 53) (some (.getfield 28, 3)) none) (cond (Nat.beq pc 56) (some (.ireturn, 1)) none)))))
def q_gX3_readLaw (pc : Nat) : Option (Instr × Nat) := cond (Nat.ble pc 78) (cond (Nat.ble pc 38) (cond (Nat.ble pc 18) (cond (Nat.ble pc 6) (cond (Nat.ble pc 1) (cond (Nat.ble pc 0) (cond (Nat.beq pc 0) (some (.aload_n 0, 1)) none) (cond (Nat.beq pc 1) (some (.aload_n 0, 1)) none)) (cond (Nat.ble pc 2) (cond (Nat.beq pc 2) (some (.getfield 22, 3)) none) (cond (Nat.ble pc 5) (cond (Nat.beq pc 5) (some (.iconst 1, 1)) none) (cond (Nat.beq pc 6) (some (.if_icmp .ne 7, 3)) none)))) (cond (Nat.ble pc 13) (cond (Nat.ble pc 9) (cond (Nat.beq pc 9) (some (.iconst 1, 1)) none) (cond (Nat.ble pc 10) (cond (Nat.beq pc 10) (some (.goto 4, 3)) none) (cond (Nat.beq pc 13) (some (.iconst 0, 1)) none))) (cond (Nat.ble pc 14) (cond (Nat.beq pc 14) (some (.iconst 2, 1)) none) (cond (Nat.ble pc 15) (cond (Nat.beq pc 15) (some (.invokevirtual 41, 3)) none) (cond (Nat.beq pc 18) (some (.aload_n 0, 1)) none))))) (cond (Nat.ble pc 26) (cond (Nat.ble pc 23) (cond (Nat.ble pc 19) (cond (Nat.beq pc 19) (some (.getfield 25, 3)) none) (cond (Nat.ble pc 22) (cond (Nat.beq pc 22) (some (.istore_n 2, 1)) none) (cond (Nat.beq pc 23) (some (.aload_n 0, 1)) none))) (cond (Nat.ble pc 24) (cond (Nat.beq pc 24) (some (.aload_n 1, 1)) none) (cond (Nat.ble pc 25) (cond (Nat.beq pc 25) (some (.iload_n 2, 1)) none) (cond (Nat.beq pc 26) (some (.invokevirtual 45, 3)) none)))) (cond (Nat.ble pc 33) (cond (Nat.ble pc 29) (cond (Nat.beq pc 29) (some (.iconst 4, 1)) none) (cond (Nat.ble pc 30) (cond (Nat.beq pc 30) (some (.invokevirtual 41, 3)) none) (cond (Nat.beq pc 33) (some (.aload_n 0, 1)) none))) (cond (Nat.ble pc 34) (cond (Nat.beq pc 34) (some (.invokevirtual 34, 3)) none) (cond (Nat.ble pc 37) (cond (Nat.beq pc 37) (some (.aload_n 0, 1)) none) (cond (Nat.beq pc 38) (some (.aload_n 0, 1)) none)))))) (cond (Nat.ble pc 59) (cond (Nat.ble pc 47) (cond (Nat.ble pc 42) (cond (Nat.ble pc 39) (cond (Nat.beq pc 39) (some (.getfield 22, 3)) none) (cond (Nat.beq pc 42) (some (.iconst 2, 1)) none)) (cond (Nat.ble pc 43) (cond (Nat.beq pc 43) (some (.if_icmp .ne 7, 3)) none) (cond (Nat.ble pc 46) (cond (Nat.beq pc 46) (some (.iconst 1, 1)) none) (cond (Nat.beq pc 47) (some (.goto 4, 3)) none)))) (cond (Nat.ble pc 52) (cond (Nat.ble pc 50) (cond (Nat.beq pc 50) (some (.iconst 0, 1)) none) (cond (Nat.ble pc 51) (cond (Nat.beq pc 51) (some (.iconst 2, 1)) none) (cond (Nat.beq pc 52) (some (.invokevirtual 41, 3)) none))) (cond (Nat.ble pc 55) (cond (Nat.beq pc 55) (some (.aload_n 0, 1)) none) (cond (Nat.ble pc 56) (cond (Nat.beq pc 56) (some (.getfield 25, 3)) none) (cond (Nat.beq pc 59) (some (.istore_n 3, 1)) none))))) (cond (Nat.ble pc 67) (cond (Nat.ble pc 62) (cond (Nat.ble pc 60) (cond (Nat.beq pc 60) (some (.aload_n 0, 1)) none) (cond (Nat.ble pc 61) (cond (Nat.beq pc 61) (some (.iload_n 2, 1)) none) (cond (Nat.beq pc 62) (some (.iload_n 3, 1)) none))) (cond (Nat.ble pc 63) (cond (Nat.beq pc 63) (some (.invokestatic 51, 3)) none) (cond (Nat.ble pc 66) (cond (Nat.beq pc 66) (some (.iconst 3, 1)) none) (cond (Nat.beq pc 67) (some (.invokevirtual 41, 3)) none)))) (cond (Nat.ble pc 73) (cond (Nat.ble pc 70) (cond (Nat.beq pc 70) (some (.iconst 0, 1)) none) (cond (Nat.ble pc 71) (cond (Nat.beq pc 71) (some (.istore 4, 2)) none) (cond (Nat.beq pc 73) (some (.iload_n 2, 1)) none))) (cond (Nat.ble pc 74) (cond (Nat.beq pc 74) (some (.iconst 4, 1)) none) (cond (Nat.ble pc 75) (cond (Nat.beq pc 75) (some (.if_icmp .ne 51, 3)) none) (cond (Nat.beq pc 78) (some (.aload_n 0, 1)) none))))))) (cond (Nat.ble pc 119) (cond (Nat.ble pc 97) (cond (Nat.ble pc 85) (cond (Nat.ble pc 80) (cond (Nat.ble pc 79) (cond (Nat.beq pc 79) (some (.aload_n 1, 1)) none) (cond (Nat.beq pc 80) (some (.iload_n 3, 1)) none)) (cond (Nat.ble pc 81) (cond (Nat.beq pc 81) (some (.invokevirtual 55, 3)) none) (cond (Nat.ble pc 84) (cond (Nat.beq pc 84) (some (.iconst 5, 1)) none) (cond (Nat.beq pc 85) (some (.invokevirtual 41, 3)) none)))) (cond (Nat.ble pc 92) (cond (Nat.ble pc 88) (cond (Nat.beq pc 88) (some (.aload_n 0, 1)) none) (cond (Nat.ble pc 89) (cond (Nat.beq pc 89) (some (.invokevirtual 34, 3)) none) (cond (Nat.beq pc 92) (some (.aload_n 0, 1)) none))) (cond (Nat.ble pc 93) (cond (Nat.beq pc 93) (some (.aload_n 0, 1)) none) (cond (Nat.ble pc 94) (cond (Nat.beq pc 94) (some (.getfield 22, 3)) none) (cond (Nat.beq pc 97) (some (.iconst 2, 1)) none))))) (cond (Nat.ble pc 107) (cond (Nat.ble pc 102) (cond (Nat.ble pc 98) (cond (Nat.beq pc 98) (some (.if_icmp .ne 7, 3)) none) (cond (Nat.ble pc 101) (cond (Nat.beq pc 101) (some (.iconst 1, 1)) none) (cond (Nat.beq pc 102) (some (.goto 4, 3)) none))) (cond (Nat.ble pc 105) (cond (Nat.beq pc 105) (some (.iconst 0, 1)) none) (cond (Nat.ble pc 106) (cond (Nat.beq pc 106) (some (.iconst 2, 1)) none) (cond (Nat.beq pc 107) (some (.invokevirtual 41, 3)) none)))) (cond (Nat.ble pc 114) (cond (Nat.ble pc 110) (cond (Nat.beq pc 110) (some (.aload_n 0, 1)) none) (cond (Nat.ble pc 111) (cond (Nat.beq pc 111) (some (.getfield 25, 3)) none) (cond (Nat.beq pc 114) (some (.istore 4, 2)) none))) (cond (Nat.ble pc 116) (cond (Nat.beq pc 116) (some (.aload_n 0, 1)) none) (cond (Nat.ble pc 117) (cond (Nat.beq pc 117) (some (.iload 4, 2)) none) (cond (Nat.beq pc 119) (some (.invokestatic 58, 3)) none)))))) (cond (Nat.ble pc 140) (cond (Nat.ble pc 130) (cond (Nat.ble pc 123) (cond (Nat.ble pc 122) (cond (Nat.beq pc 122) (some (.iconst 3, 1)) none) (cond (Nat.beq pc 123) (some (.invokevirtual 41, 3)) none)) (cond (Nat.ble pc 126) (cond (Nat.beq pc 126) (some (.aload_n 0, 1)) none) (cond (Nat.ble pc 127) (cond (Nat.beq pc 127) (some (.invokevirtual 34, 3)) none) (cond (Nat.beq pc 130) (some (.aload_n 0, 1)) none)))) (cond (Nat.ble pc 135) (cond (Nat.ble pc 131) (cond (Nat.beq pc 131) (some (.aload_n 0, 1)) none) (cond (Nat.ble pc 132) (cond (Nat.beq pc 132) (some (.getfield 22, 3)) none) (cond (Nat.beq pc 135) (some (.iconst 3, 1)) none))) (cond (Nat.ble pc 136) (cond (Nat.beq pc 136) (some (.if_icmp .ne 7, 3)) none) (cond (Nat.ble pc 139) (cond (Nat.beq pc 139) (some (.iconst 1, 1)) none) (cond (Nat.beq pc 140) (some (.goto 4, 3)) none))))) (cond (Nat.ble pc 152) (cond (Nat.ble pc 145) (cond (Nat.ble pc 143) (cond (Nat.beq pc 143) (some (.iconst 0, 1)) none) (cond (Nat.ble pc 144) (cond (Nat.beq pc 144) (some (.iconst 2, 1)) none) (cond (Nat.beq pc 145) (some (.invokevirtual 41, 3)) none))) (cond (Nat.ble pc 148) (cond (Nat.beq pc 148) (some (.aload_n 0, 1)) none) (cond (Nat.ble pc 149) (cond (Nat.beq pc 149) (some (.getfield 28, 3)) none) (cond (Nat.beq pc 152) (some (.ifCond .ne 11, 3)) none)))) (cond (Nat.ble pc 157) (cond (Nat.ble pc 155) (cond (Nat.beq pc 155) (some (.aload_n 1, 1)) none) (cond (Nat.ble pc 156) (cond (Nat.beq pc 156) (some (.iload_n 2, 1)) none) (cond (Nat.beq pc 157) (some (.iload_n 3, 1)) none))) (cond (Nat.ble pc 158) (cond (Nat.beq pc 158) (some (.iload 4, 2)) none) (cond (Nat.ble pc 160) (cond (Nat.beq pc 160) (some (.invokevirtual 61, 3)) none) (cond (Nat.beq pc 163) (some (.return_, 1)) none)))))))
def q_gX3_require (pc : Nat) : Option (Instr × Nat) := cond (Nat.ble pc 7) (cond (Nat.ble pc 1) (cond (Nat.ble pc 0) (cond (Nat.beq pc 0) (some (.aload_n 0, 1)) none) (cond (Nat.beq pc 1) (some (.getfield 28, 3)) none)) (cond (Nat.ble pc 4) (cond (Nat.beq pc 4) (some (.ifCond .ne 12, 3)) none) (cond (Nat.beq pc 7) (some (.iload_n 1, 1)) none))) (cond (Nat.ble pc 11) (cond (Nat.ble pc 8) (cond (Nat.beq pc 8) (some (.ifCond .ne 8, 3)) none) (cond (Nat.beq pc 11) (some (.aload_n 0, 1)) none)) (cond (Nat.ble pc 12) (cond (Nat.beq pc 12) (some (.iload_n 2, 1)) none) (cond (Nat.ble pc 13) (cond (Nat.beq pc 13) (some (.putfield 28, 3)) none) (cond (Nat.beq pc 16) (some (.return_, 1)) none))))
def q_gX3_readToken (pc : Nat) : Option (Instr × Nat) := cond (Nat.ble pc 52) (cond (Nat.ble pc 24) (cond (Nat.ble pc 9) (cond (Nat.ble pc 4) (cond (Nat.ble pc 0) (cond (Nat.beq pc 0) (some (.aload_n 0, 1)) none) (cond (Nat.ble pc 1) (cond (Nat.beq pc 1) (some (.getfield 28, 3)) none) (cond (Nat.beq pc 4) (some (.ifCond .eq 4, 3)) none))) (cond (Nat.ble pc 7) (cond (Nat.beq pc 7) (some (.return_, 1)) none) (cond (Nat.ble pc 8) (cond (Nat.beq pc 8) (some (.aload_n 0, 1)) none) (cond (Nat.beq pc 9) (some (.invokevirtual 65, 3)) none)))) (cond (Nat.ble pc 14) (cond (Nat.ble pc 12) (cond (Nat.beq pc 12) (some (.aload_n 0, 1)) none) (cond (Nat.ble pc 13) (cond (Nat.beq pc 13) (some (.aload_n 0, 1)) none) (cond (Nat.beq pc 14) (some (.getfield 18, 3)) none))) (cond (Nat.ble pc 20) (cond (Nat.ble pc 17) (cond (Nat.beq pc 17) (some (.putfield 31, 3)) none) (cond (Nat.beq pc 20) (some (.aload_n 0, 1)) none)) (cond (Nat.ble pc 21) (cond (Nat.beq pc 21) (some (.getfield 12, 3)) none) (cond (Nat.beq pc 24) (some (.aload_n 0, 1)) none))))) (cond (Nat.ble pc 37) (cond (Nat.ble pc 31) (cond (Nat.ble pc 25) (cond (Nat.beq pc 25) (some (.getfield 18, 3)) none) (cond (Nat.ble pc 28) (cond (Nat.beq pc 28) (some (.invokevirtual 68, 3)) none) (cond (Nat.beq pc 31) (some (.istore_n 1, 1)) none))) (cond (Nat.ble pc 33) (cond (Nat.ble pc 32) (cond (Nat.beq pc 32) (some (.iload_n 1, 1)) none) (cond (Nat.beq pc 33) (some (.iconst (-1), 1)) none)) (cond (Nat.ble pc 34) (cond (Nat.beq pc 34) (some (.if_icmp .ne 11, 3)) none) (cond (Nat.beq pc 37) (some (.aload_n 0, 1)) none)))) (cond (Nat.ble pc 42) (cond (Nat.ble pc 38) (cond (Nat.beq pc 38) (some (.iconst 0, 1)) none) (cond (Nat.ble pc 39) (cond (Nat.beq pc 39) (some (.putfield 22, 3)) none) (cond (Nat.beq pc 42) (some (.goto 62, 3)) none))) (cond (Nat.ble pc 46) (cond (Nat.ble pc 45) (cond (Nat.beq pc 45) (some (.iload_n 1, 1)) none) (cond (Nat.beq pc 46) (some (.invokestatic 72, 3)) none)) (cond (Nat.ble pc 49) (cond (Nat.beq pc 49) (some (.ifCond .eq 10, 3)) none) (cond (Nat.beq pc 52) (some (.aload_n 0, 1)) none)))))) (cond (Nat.ble pc 79) (cond (Nat.ble pc 66) (cond (Nat.ble pc 59) (cond (Nat.ble pc 53) (cond (Nat.beq pc 53) (some (.invokevirtual 75, 3)) none) (cond (Nat.ble pc 56) (cond (Nat.beq pc 56) (some (.goto 48, 3)) none) (cond (Nat.beq pc 59) (some (.iload_n 1, 1)) none))) (cond (Nat.ble pc 60) (cond (Nat.beq pc 60) (some (.invokestatic 78, 3)) none) (cond (Nat.ble pc 63) (cond (Nat.beq pc 63) (some (.ifCond .eq 10, 3)) none) (cond (Nat.beq pc 66) (some (.aload_n 0, 1)) none)))) (cond (Nat.ble pc 73) (cond (Nat.ble pc 67) (cond (Nat.beq pc 67) (some (.invokevirtual 81, 3)) none) (cond (Nat.ble pc 70) (cond (Nat.beq pc 70) (some (.goto 34, 3)) none) (cond (Nat.beq pc 73) (some (.aload_n 0, 1)) none))) (cond (Nat.ble pc 75) (cond (Nat.ble pc 74) (cond (Nat.beq pc 74) (some (.iconst 3, 1)) none) (cond (Nat.beq pc 75) (some (.putfield 22, 3)) none)) (cond (Nat.ble pc 78) (cond (Nat.beq pc 78) (some (.aload_n 0, 1)) none) (cond (Nat.beq pc 79) (some (.dup, 1)) none))))) (cond (Nat.ble pc 90) (cond (Nat.ble pc 84) (cond (Nat.ble pc 80) (cond (Nat.beq pc 80) (some (.getfield 18, 3)) none) (cond (Nat.ble pc 83) (cond (Nat.beq pc 83) (some (.iconst 1, 1)) none) (cond (Nat.beq pc 84) (some (.iadd, 1)) none))) (cond (Nat.ble pc 88) (cond (Nat.ble pc 85) (cond (Nat.beq pc 85) (some (.putfield 18, 3)) none) (cond (Nat.beq pc 88) (some (.aload_n 0, 1)) none)) (cond (Nat.ble pc 89) (cond (Nat.beq pc 89) (some (.iload_n 1, 1)) none) (cond (Nat.beq pc 90) (some (.bipush 59, 2)) none)))) (cond (Nat.ble pc 96) (cond (Nat.ble pc 92) (cond (Nat.beq pc 92) (some (.if_icmp .ne 7, 3)) none) (cond (Nat.ble pc 95) (cond (Nat.beq pc 95) (some (.iconst 1, 1)) none) (cond (Nat.beq pc 96) (some (.goto 4, 3)) none))) (cond (Nat.ble pc 100) (cond (Nat.ble pc 99) (cond (Nat.beq pc 99) (some (.iconst 0, 1)) none) (cond (Nat.beq pc 100) (some (.iconst 1, 1)) none)) (cond (Nat.ble pc 101) (cond (Nat.beq pc 101) (some (.invokevirtual 41, 3)) none) (cond (Nat.beq pc 104) (some (.return_, 1)) none))))))
def q_gX3_skipBlanks (pc : Nat) : Option (Instr × Nat) := cond (Nat.ble pc 17) (cond (Nat.ble pc 6) (cond (Nat.ble pc 1) (cond (Nat.ble pc 0) (cond (Nat.beq pc 0) (some (.iconst 0, 1)) none) (cond (Nat.beq pc 1) (some (.istore_n 1, 1)) none)) (cond (Nat.ble pc 2) (cond (Nat.beq pc 2) (some (.iload_n 1, 1)) none) (cond (Nat.ble pc 3) (cond (Nat.beq pc 3) (some (.sipush 200, 3)) none) (cond (Nat.beq pc 6) (some (.if_icmp .ge 35, 3)) none)))) (cond (Nat.ble pc 10) (cond (Nat.ble pc 9) (cond (Nat.beq pc 9) (some (.aload_n 0, 1)) none) (cond (Nat.beq pc 10) (some (.getfield 12, 3)) none)) (cond (Nat.ble pc 13) (cond (Nat.beq pc 13) (some (.aload_n 0, 1)) none) (cond (Nat.ble pc 14) (cond (Nat.beq pc 14) (some (.getfield 18, 3)) none) (cond (Nat.beq pc 17) (some (.invokevirtual 68, 3)) none))))) (cond (Nat.ble pc 27) (cond (Nat.ble pc 22) (cond (Nat.ble pc 20) (cond (Nat.beq pc 20) (some (.bipush 32, 2)) none) (cond (Nat.beq pc 22) (some (.if_icmp .ne 19, 3)) none)) (cond (Nat.ble pc 25) (cond (Nat.beq pc 25) (some (.aload_n 0, 1)) none) (cond (Nat.ble pc 26) (cond (Nat.beq pc 26) (some (.dup, 1)) none) (cond (Nat.beq pc 27) (some (.getfield 18, 3)) none)))) (cond (Nat.ble pc 32) (cond (Nat.ble pc 30) (cond (Nat.beq pc 30) (some (.iconst 1, 1)) none) (cond (Nat.ble pc 31) (cond (Nat.beq pc 31) (some (.iadd, 1)) none) (cond (Nat.beq pc 32) (some (.putfield 18, 3)) none))) (cond (Nat.ble pc 35) (cond (Nat.beq pc 35) (some (.iinc 1 1, 3)) none) (cond (Nat.ble pc 38) (cond (Nat.beq pc 38) (some (.goto (-36), 3)) none) (cond (Nat.beq pc 41) (some (.return_, 1)) none)))))
def q_gX3_takeName (pc : Nat) : Option (Instr × Nat) := cond (Nat.ble pc 50) (cond (Nat.ble pc 22) (cond (Nat.ble pc 7) (cond (Nat.ble pc 2) (cond (Nat.ble pc 0) (cond (Nat.beq pc 0) (some (.aload_n 0, 1)) none) (cond (Nat.ble pc 1) (cond (Nat.beq pc 1) (some (.iconst 1, 1)) none) (cond (Nat.beq pc 2) (some (.putfield 22, 3)) none))) (cond (Nat.ble pc 5) (cond (Nat.beq pc 5) (some (.iconst 0, 1)) none) (cond (Nat.ble pc 6) (cond (Nat.beq pc 6) (some (.istore_n 1, 1)) none) (cond (Nat.beq pc 7) (some (.iload_n 1, 1)) none)))) (cond (Nat.ble pc 14) (cond (Nat.ble pc 8) (cond (Nat.beq pc 8) (some (.sipush 200, 3)) none) (cond (Nat.ble pc 11) (cond (Nat.beq pc 11) (some (.if_icmp .ge 36, 3)) none) (cond (Nat.beq pc 14) (some (.aload_n 0, 1)) none))) (cond (Nat.ble pc 18) (cond (Nat.ble pc 15) (cond (Nat.beq pc 15) (some (.getfield 12, 3)) none) (cond (Nat.beq pc 18) (some (.aload_n 0, 1)) none)) (cond (Nat.ble pc 19) (cond (Nat.beq pc 19) (some (.getfield 18, 3)) none) (cond (Nat.beq pc 22) (some (.invokevirtual 68, 3)) none))))) (cond (Nat.ble pc 36) (cond (Nat.ble pc 31) (cond (Nat.ble pc 25) (cond (Nat.beq pc 25) (some (.invokestatic 72, 3)) none) (cond (Nat.ble pc 28) (cond (Nat.beq pc 28) (some (.ifCond .eq 19, 3)) none) (cond (Nat.beq pc 31) (some (.aload_n 0, 1)) none))) (cond (Nat.ble pc 32) (cond (Nat.beq pc 32) (some (.dup, 1)) none) (cond (Nat.ble pc 33) (cond (Nat.beq pc 33) (some (.getfield 18, 3)) none) (cond (Nat.beq pc 36) (some (.iconst 1, 1)) none)))) (cond (Nat.ble pc 41) (cond (Nat.ble pc 37) (cond (Nat.beq pc 37) (some (.iadd, 1)) none) (cond (Nat.ble pc 38) (cond (Nat.beq pc 38) (some (.putfield 18, 3)) none) (cond (Nat.beq pc 41) (some (.iinc 1 1, 3)) none))) (cond (Nat.ble pc 47) (cond (Nat.ble pc 44) (cond (Nat.beq pc 44) (some (.goto (-37), 3)) none) (cond (Nat.beq pc 47) (some (.aload_n 0, 1)) none)) (cond (Nat.ble pc 48) (cond (Nat.beq pc 48) (some (.bipush (-4), 2)) none) (cond (Nat.beq pc 50) (some (.putfield 25, 3)) none)))))) (cond (Nat.ble pc 73) (cond (Nat.ble pc 60) (cond (Nat.ble pc 55) (cond (Nat.ble pc 53) (cond (Nat.beq pc 53) (some (.iconst 0, 1)) none) (cond (Nat.ble pc 54) (cond (Nat.beq pc 54) (some (.istore_n 1, 1)) none) (cond (Nat.beq pc 55) (some (.iload_n 1, 1)) none))) (cond (Nat.ble pc 56) (cond (Nat.beq pc 56) (some (.iconst 4, 1)) none) (cond (Nat.ble pc 57) (cond (Nat.beq pc 57) (some (.if_icmp .gt 25, 3)) none) (cond (Nat.beq pc 60) (some (.aload_n 0, 1)) none)))) (cond (Nat.ble pc 65) (cond (Nat.ble pc 61) (cond (Nat.beq pc 61) (some (.iload_n 1, 1)) none) (cond (Nat.ble pc 62) (cond (Nat.beq pc 62) (some (.invokestatic 84, 3)) none) (cond (Nat.beq pc 65) (some (.invokevirtual 88, 3)) none))) (cond (Nat.ble pc 71) (cond (Nat.ble pc 68) (cond (Nat.beq pc 68) (some (.ifCond .eq 8, 3)) none) (cond (Nat.beq pc 71) (some (.aload_n 0, 1)) none)) (cond (Nat.ble pc 72) (cond (Nat.beq pc 72) (some (.iload_n 1, 1)) none) (cond (Nat.beq pc 73) (some (.putfield 25, 3)) none))))) (cond (Nat.ble pc 87) (cond (Nat.ble pc 82) (cond (Nat.ble pc 76) (cond (Nat.beq pc 76) (some (.iinc 1 1, 3)) none) (cond (Nat.ble pc 79) (cond (Nat.beq pc 79) (some (.goto (-24), 3)) none) (cond (Nat.beq pc 82) (some (.aload_n 0, 1)) none))) (cond (Nat.ble pc 83) (cond (Nat.beq pc 83) (some (.aload_n 0, 1)) none) (cond (Nat.ble pc 84) (cond (Nat.beq pc 84) (some (.getfield 25, 3)) none) (cond (Nat.beq pc 87) (some (.bipush (-4), 2)) none)))) (cond (Nat.ble pc 93) (cond (Nat.ble pc 89) (cond (Nat.beq pc 89) (some (.if_icmp .eq 7, 3)) none) (cond (Nat.ble pc 92) (cond (Nat.beq pc 92) (some (.iconst 1, 1)) none) (cond (Nat.beq pc 93) (some (.goto 4, 3)) none))) (cond (Nat.ble pc 97) (cond (Nat.ble pc 96) (cond (Nat.beq pc 96) (some (.iconst 0, 1)) none) (cond (Nat.beq pc 97) (some (.iconst 1, 1)) none)) (cond (Nat.ble pc 98) (cond (Nat.beq pc 98) (some (.invokevirtual 41, 3)) none) (cond (Nat.beq pc 101) (some (.return_, 1)) none))))))
def q_gX3_isTakenName (pc : Nat) : Option (Instr × Nat) := cond (Nat.ble pc 25) (cond (Nat.ble pc 13) (cond (Nat.ble pc 5) (cond (Nat.ble pc 1) (cond (Nat.ble pc 0) (cond (Nat.beq pc 0) (some (.aload_n 0, 1)) none) (cond (Nat.beq pc 1) (some (.getfield 18, 3)) none)) (cond (Nat.ble pc 4) (cond (Nat.beq pc 4) (some (.aload_n 0, 1)) none) (cond (Nat.beq pc 5) (some (.getfield 31, 3)) none))) (cond (Nat.ble pc 9) (cond (Nat.ble pc 8) (cond (Nat.beq pc 8) (some (.isub, 1)) none) (cond (Nat.beq pc 9) (some (.aload_n 1, 1)) none)) (cond (Nat.ble pc 10) (cond (Nat.beq pc 10) (some (.invokevirtual 92, 3)) none) (cond (Nat.beq pc 13) (some (.if_icmp .eq 5, 3)) none)))) (cond (Nat.ble pc 19) (cond (Nat.ble pc 17) (cond (Nat.ble pc 16) (cond (Nat.beq pc 16) (some (.iconst 0, 1)) none) (cond (Nat.beq pc 17) (some (.ireturn, 1)) none)) (cond (Nat.ble pc 18) (cond (Nat.beq pc 18) (some (.iconst 0, 1)) none) (cond (Nat.beq pc 19) (some (.istore_n 2, 1)) none))) (cond (Nat.ble pc 21) (cond (Nat.ble pc 20) (cond (Nat.beq pc 20) (some (.iload_n 2, 1)) none) (cond (Nat.beq pc 21) (some (.aload_n 1, 1)) none)) (cond (Nat.ble pc 22) (cond (Nat.beq pc 22) (some (.invokevirtual 92, 3)) none) (cond (Nat.beq pc 25) (some (.if_icmp .ge 32, 3)) none))))) (cond (Nat.ble pc 41) (cond (Nat.ble pc 33) (cond (Nat.ble pc 29) (cond (Nat.ble pc 28) (cond (Nat.beq pc 28) (some (.aload_n 0, 1)) none) (cond (Nat.beq pc 29) (some (.getfield 12, 3)) none)) (cond (Nat.ble pc 32) (cond (Nat.beq pc 32) (some (.aload_n 0, 1)) none) (cond (Nat.beq pc 33) (some (.getfield 31, 3)) none))) (cond (Nat.ble pc 37) (cond (Nat.ble pc 36) (cond (Nat.beq pc 36) (some (.iload_n 2, 1)) none) (cond (Nat.beq pc 37) (some (.iadd, 1)) none)) (cond (Nat.ble pc 38) (cond (Nat.beq pc 38) (some (.invokevirtual 68, 3)) none) (cond (Nat.beq pc 41) (some (.aload_n 1, 1)) none)))) (cond (Nat.ble pc 49) (cond (Nat.ble pc 43) (cond (Nat.ble pc 42) (cond (Nat.beq pc 42) (some (.iload_n 2, 1)) none) (cond (Nat.beq pc 43) (some (.invokevirtual 98, 3)) none)) (cond (Nat.ble pc 46) (cond (Nat.beq pc 46) (some (.if_icmp .eq 5, 3)) none) (cond (Nat.beq pc 49) (some (.iconst 0, 1)) none))) (cond (Nat.ble pc 51) (cond (Nat.ble pc 50) (cond (Nat.beq pc 50) (some (.ireturn, 1)) none) (cond (Nat.beq pc 51) (some (.iinc 2 1, 3)) none)) (cond (Nat.ble pc 54) (cond (Nat.beq pc 54) (some (.goto (-34), 3)) none) (cond (Nat.ble pc 57) (cond (Nat.beq pc 57) (some (.iconst 1, 1)) none) (cond (Nat.beq pc 58) (some (.ireturn, 1)) none))))))
def q_gX3_takeNumber (pc : Nat) : Option (Instr × Nat) := cond (Nat.ble pc 49) (cond (Nat.ble pc 20) (cond (Nat.ble pc 7) (cond (Nat.ble pc 2) (cond (Nat.ble pc 0) (cond (Nat.beq pc 0) (some (.aload_n 0, 1)) none) (cond (Nat.ble pc 1) (cond (Nat.beq pc 1) (some (.iconst 2, 1)) none) (cond (Nat.beq pc 2) (some (.putfield 22, 3)) none))) (cond (Nat.ble pc 5) (cond (Nat.beq pc 5) (some (.aload_n 0, 1)) none) (cond (Nat.ble pc 6) (cond (Nat.beq pc 6) (some (.iconst 0, 1)) none) (cond (Nat.beq pc 7) (some (.putfield 25, 3)) none)))) (cond (Nat.ble pc 12) (cond (Nat.ble pc 10) (cond (Nat.beq pc 10) (some (.iconst 0, 1)) none) (cond (Nat.ble pc 11) (cond (Nat.beq pc 11) (some (.istore_n 1, 1)) none) (cond (Nat.beq pc 12) (some (.iload_n 1, 1)) none))) (cond (Nat.ble pc 16) (cond (Nat.ble pc 13) (cond (Nat.beq pc 13) (some (.sipush 200, 3)) none) (cond (Nat.beq pc 16) (some (.if_icmp .ge 62, 3)) none)) (cond (Nat.ble pc 19) (cond (Nat.beq pc 19) (some (.aload_n 0, 1)) none) (cond (Nat.beq pc 20) (some (.getfield 12, 3)) none))))) (cond (Nat.ble pc 37) (cond (Nat.ble pc 27) (cond (Nat.ble pc 23) (cond (Nat.beq pc 23) (some (.aload_n 0, 1)) none) (cond (Nat.ble pc 24) (cond (Nat.beq pc 24) (some (.getfield 18, 3)) none) (cond (Nat.beq pc 27) (some (.invokevirtual 68, 3)) none))) (cond (Nat.ble pc 33) (cond (Nat.ble pc 30) (cond (Nat.beq pc 30) (some (.invokestatic 78, 3)) none) (cond (Nat.beq pc 33) (some (.ifCond .eq 45, 3)) none)) (cond (Nat.ble pc 36) (cond (Nat.beq pc 36) (some (.aload_n 0, 1)) none) (cond (Nat.beq pc 37) (some (.bipush 10, 2)) none)))) (cond (Nat.ble pc 43) (cond (Nat.ble pc 39) (cond (Nat.beq pc 39) (some (.aload_n 0, 1)) none) (cond (Nat.ble pc 40) (cond (Nat.beq pc 40) (some (.getfield 25, 3)) none) (cond (Nat.beq pc 43) (some (.imul, 1)) none))) (cond (Nat.ble pc 45) (cond (Nat.ble pc 44) (cond (Nat.beq pc 44) (some (.aload_n 0, 1)) none) (cond (Nat.beq pc 45) (some (.getfield 12, 3)) none)) (cond (Nat.ble pc 48) (cond (Nat.beq pc 48) (some (.aload_n 0, 1)) none) (cond (Nat.beq pc 49) (some (.getfield 18, 3)) none)))))) (cond (Nat.ble pc 75) (cond (Nat.ble pc 62) (cond (Nat.ble pc 56) (cond (Nat.ble pc 52) (cond (Nat.beq pc 52) (some (.invokevirtual 68, 3)) none) (cond (Nat.ble pc 55) (cond (Nat.beq pc 55) (some (.iadd, 1)) none) (cond (Nat.beq pc 56) (some (.bipush 48, 2)) none))) (cond (Nat.ble pc 58) (cond (Nat.beq pc 58) (some (.isub, 1)) none) (cond (Nat.ble pc 59) (cond (Nat.beq pc 59) (some (.putfield 25, 3)) none) (cond (Nat.beq pc 62) (some (.aload_n 0, 1)) none)))) (cond (Nat.ble pc 67) (cond (Nat.ble pc 63) (cond (Nat.beq pc 63) (some (.dup, 1)) none) (cond (Nat.ble pc 64) (cond (Nat.beq pc 64) (some (.getfield 18, 3)) none) (cond (Nat.beq pc 67) (some (.iconst 1, 1)) none))) (cond (Nat.ble pc 69) (cond (Nat.ble pc 68) (cond (Nat.beq pc 68) (some (.iadd, 1)) none) (cond (Nat.beq pc 69) (some (.putfield 18, 3)) none)) (cond (Nat.ble pc 72) (cond (Nat.beq pc 72) (some (.iinc 1 1, 3)) none) (cond (Nat.beq pc 75) (some (.goto (-63), 3)) none))))) (cond (Nat.ble pc 88) (cond (Nat.ble pc 80) (cond (Nat.ble pc 78) (cond (Nat.beq pc 78) (some (.aload_n 0, 1)) none) (cond (Nat.ble pc 79) (cond (Nat.beq pc 79) (some (.aload_n 0, 1)) none) (cond (Nat.beq pc 80) (some (.getfield 18, 3)) none))) (cond (Nat.ble pc 84) (cond (Nat.ble pc 83) (cond (Nat.beq pc 83) (some (.aload_n 0, 1)) none) (cond (Nat.beq pc 84) (some (.getfield 31, 3)) none)) (cond (Nat.ble pc 87) (cond (Nat.beq pc 87) (some (.isub, 1)) none) (cond (Nat.beq pc 88) (some (.iconst 4, 1)) none)))) (cond (Nat.ble pc 93) (cond (Nat.ble pc 89) (cond (Nat.beq pc 89) (some (.if_icmp .gt 7, 3)) none) (cond (Nat.ble pc 92) (cond (Nat.beq pc 92) (some (.iconst 1, 1)) none) (cond (Nat.beq pc 93) (some (.goto 4, 3)) none))) (cond (Nat.ble pc 97) (cond (Nat.ble pc 96) (cond (Nat.beq pc 96) (some (.iconst 0, 1)) none) (cond (Nat.beq pc 97) (some (.iconst 1, 1)) none)) (cond (Nat.ble pc 98) (cond (Nat.beq pc 98) (some (.invokevirtual 41, 3)) none) (cond (Nat.beq pc 101) (some (.return_, 1)) none))))))
def q_gX3_isLetter (pc : Nat) : Option (Instr × Nat) := cond (Nat.ble pc 7) (cond (Nat.ble pc 1) (cond (Nat.ble pc 0) (cond (Nat.beq pc 0) (some (.iload_n 0, 1)) none) (cond (Nat.beq pc 1) (some (.bipush 97, 2)) none)) (cond (Nat.ble pc 3) (cond (Nat.beq pc 3) (some (.if_icmp .lt 13, 3)) none) (cond (Nat.ble pc 6) (cond (Nat.beq pc 6) (some (.iload_n 0, 1)) none) (cond (Nat.beq pc 7) (some (.bipush 122, 2)) none)))) (cond (Nat.ble pc 12) (cond (Nat.ble pc 9) (cond (Nat.beq pc 9) (some (.if_icmp .gt 7, 3)) none) (cond (Nat.beq pc 12) (some (.iconst 1, 1)) none)) (cond (Nat.ble pc 13) (cond (Nat.beq pc 13) (some (.goto 4, 3)) none) (cond (Nat.ble pc 16) (cond (Nat.beq pc 16) (some (.iconst 0, 1)) none) (cond (Nat.beq pc 17) (some (.ireturn, 1)) none))))
def q_gX3_isFigure (pc : Nat) : Option (Instr × Nat) := cond (Nat.ble pc 7) (cond (Nat.ble pc 1) (cond (Nat.ble pc 0) (cond (Nat.beq pc 0) (some (.iload_n 0, 1)) none) (cond (Nat.beq pc 1) (some (.bipush 48, 2)) none)) (cond (Nat.ble pc 3) (cond (Nat.beq pc 3) (some (.if_icmp .lt 13, 3)) none) (cond (Nat.ble pc 6) (cond (Nat.beq pc 6) (some (.iload_n 0, 1)) none) (cond (Nat.beq pc 7) (some (.bipush 57, 2)) none)))) (cond (Nat.ble pc 12) (cond (Nat.ble pc 9) (cond (Nat.beq pc 9) (some (.if_icmp .gt 7, 3)) none) (cond (Nat.beq pc 12) (some (.iconst 1, 1)) none)) (cond (Nat.ble pc 13) (cond (Nat.beq pc 13) (some (.goto 4, 3)) none) (cond (Nat.ble pc 16) (cond (Nat.beq pc 16) (some (.iconst 0, 1)) none) (cond (Nat.beq pc 17) (some (.ireturn, 1)) none))))
def q_gX4_init (pc : Nat) : Option (Instr × Nat) := cond (Nat.ble pc 30) (cond (Nat.ble pc 13) (cond (Nat.ble pc 5) (cond (Nat.ble pc 1) (cond (Nat.ble pc 0) (cond (Nat.beq pc 0) (some (.aload_n 0, 1)) none) (cond (Nat.beq pc 1) (some (.invokespecial 3, 3)) none)) (cond (Nat.ble pc 4) (cond (Nat.beq pc 4) (some (.aload_n 0, 1)) none) (cond (Nat.beq pc 5) (some (.bipush 8, 2)) none))) (cond (Nat.ble pc 9) (cond (Nat.ble pc 7) (cond (Nat.beq pc 7) (some (.newarray .int, 2)) none) (cond (Nat.beq pc 9) (some (.putfield 11, 3)) none)) (cond (Nat.ble pc 12) (cond (Nat.beq pc 12) (some (.aload_n 0, 1)) none) (cond (Nat.beq pc 13) (some (.bipush 8, 2)) none)))) (cond (Nat.ble pc 21) (cond (Nat.ble pc 17) (cond (Nat.ble pc 15) (cond (Nat.beq pc 15) (some (.newarray .int, 2)) none) (cond (Nat.beq pc 17) (some (.putfield 15, 3)) none)) (cond (Nat.ble pc 20) (cond (Nat.beq pc 20) (some (.aload_n 0, 1)) none) (cond (Nat.beq pc 21) (some (.bipush 8, 2)) none))) (cond (Nat.ble pc 25) (cond (Nat.ble pc 23) (cond (Nat.beq pc 23) (some (.newarray .int, 2)) none) (cond (Nat.beq pc 25) (some (.putfield 18, 3)) none)) (cond (Nat.ble pc 28) (cond (Nat.beq pc 28) (some (.aload_n 0, 1)) none) (cond (Nat.ble pc 29) (cond (Nat.beq pc 29) (some (.iconst 0, 1)) none) (cond (Nat.beq pc 30) (some (.putfield 21, 3)) none)))))) (cond (Nat.ble pc 49) (cond (Nat.ble pc 38) (cond (Nat.ble pc 34) (cond (Nat.ble pc 33) (cond (Nat.beq pc 33) (some (.aload_n 0, 1)) none) (cond (Nat.beq pc 34) (some (.bipush 41, 2)) none)) (cond (Nat.ble pc 36) (cond (Nat.beq pc 36) (some (.newarray .int, 2)) none) (cond (Nat.beq pc 38) (some (.putfield 25, 3)) none))) (cond (Nat.ble pc 42) (cond (Nat.ble pc 41) (cond (Nat.beq pc 41) (some (.aload_n 0, 1)) none) (cond (Nat.beq pc 42) (some (.bipush 40, 2)) none)) (cond (Nat.ble pc 44) (cond (Nat.beq pc 44) (some (.newarray .int, 2)) none) (cond (Nat.ble pc 46) (cond (Nat.beq pc 46) (some (.putfield 28, 3)) none) (cond (Nat.beq pc 49) (some (.aload_n 0, 1)) none))))) (cond (Nat.ble pc 55) (cond (Nat.ble pc 51) (cond (Nat.ble pc 50) (cond (Nat.beq pc 50) (some (.iconst 0, 1)) none) (cond (Nat.beq pc 51) (some (.putfield 31, 3)) none)) (cond (Nat.ble pc 54) (cond (Nat.beq pc 54) (some (.aload_n 0, 1)) none) (cond (Nat.beq pc 55) (some (.iconst 0, 1)) none))) (cond (Nat.ble pc 59) (cond (Nat.ble pc 56) (cond (Nat.beq pc 56) (some (.putfield 34, 3)) none) (cond (Nat.beq pc 59) (some (.aload_n 0, 1)) none)) (cond (Nat.ble pc 60) (cond (Nat.beq pc 60) (some (.iconst 0, 1)) none) (cond (Nat.ble pc 61) (cond (Nat.beq pc 61) (some (.putfield 37, 3)) none) (cond (Nat.beq pc 64) (some (.return_, 1)) none))))))
def q_gX4_isSlate (pc : Nat) : Option (Instr × Nat) := cond (Nat.ble pc 12) (cond (Nat.ble pc 5) (cond (Nat.ble pc 1) (cond (Nat.ble pc 0) (cond (Nat.beq pc 0) (some (.iload_n 0, 1)) none) (cond (Nat.beq pc 1) (some (.iconst 1, 1)) none)) (cond (Nat.ble pc 2) (cond (Nat.beq pc 2) (some (.if_icmp .lt 25, 3)) none) (cond (Nat.beq pc 5) (some (.iload_n 0, 1)) none))) (cond (Nat.ble pc 8) (cond (Nat.ble pc 6) (cond (Nat.beq pc 6) (some (.bipush 20, 2)) none) (cond (Nat.beq pc 8) (some (.if_icmp .gt 19, 3)) none)) (cond (Nat.ble pc 11) (cond (Nat.beq pc 11) (some (.iload_n 1, 1)) none) (cond (Nat.beq pc 12) (some (.iconst 1, 1)) none)))) (cond (Nat.ble pc 20) (cond (Nat.ble pc 16) (cond (Nat.ble pc 13) (cond (Nat.beq pc 13) (some (.if_icmp .lt 14, 3)) none) (cond (Nat.beq pc 16) (some (.iload_n 1, 1)) none)) (cond (Nat.ble pc 17) (cond (Nat.beq pc 17) (some (.sipush 200, 3)) none) (cond (Nat.beq pc 20) (some (.if_icmp .gt 7, 3)) none))) (cond (Nat.ble pc 24) (cond (Nat.ble pc 23) (cond (Nat.beq pc 23) (some (.iconst 1, 1)) none) (cond (Nat.beq pc 24) (some (.goto 4, 3)) none)) (cond (Nat.ble pc 27) (cond (Nat.beq pc 27) (some (.iconst 0, 1)) none) (cond (Nat.beq pc 28) (some (.ireturn, 1)) none))))
def q_gX4_isBlock (pc : Nat) : Option (Instr × Nat) := cond (Nat.ble pc 14) (cond (Nat.ble pc 3) (cond (Nat.ble pc 1) (cond (Nat.ble pc 0) (cond (Nat.beq pc 0) (some (.lload_n 0, 1)) none) (cond (Nat.beq pc 1) (some (.lconst 1, 1)) none)) (cond (Nat.ble pc 2) (cond (Nat.beq pc 2) (some (.lcmp, 1)) none) (cond (Nat.beq pc 3) (some (.ifCond .lt 24, 3)) none))) (cond (Nat.ble pc 7) (cond (Nat.ble pc 6) (cond (Nat.beq pc 6) (some (.lload_n 0, 1)) none) (cond (Nat.beq pc 7) (some (.ldc2_w 40, 3)) none)) (cond (Nat.ble pc 10) (cond (Nat.beq pc 10) (some (.lcmp, 1)) none) (cond (Nat.ble pc 11) (cond (Nat.beq pc 11) (some (.ifCond .gt 16, 3)) none) (cond (Nat.beq pc 14) (some (.lload_n 2, 1)) none))))) (cond (Nat.ble pc 19) (cond (Nat.ble pc 16) (cond (Nat.ble pc 15) (cond (Nat.beq pc 15) (some (.lload_n 0, 1)) none) (cond (Nat.beq pc 16) (some (.l2i, 1)) none)) (cond (Nat.ble pc 17) (cond (Nat.beq pc 17) (some (.lushr, 1)) none) (cond (Nat.ble pc 18) (cond (Nat.beq pc 18) (some (.lconst 0, 1)) none) (cond (Nat.beq pc 19) (some (.lcmp, 1)) none)))) (cond (Nat.ble pc 23) (cond (Nat.ble pc 20) (cond (Nat.beq pc 20) (some (.ifCond .ne 7, 3)) none) (cond (Nat.beq pc 23) (some (.iconst 1, 1)) none)) (cond (Nat.ble pc 24) (cond (Nat.beq pc 24) (some (.goto 4, 3)) none) (cond (Nat.ble pc 27) (cond (Nat.beq pc 27) (some (.iconst 0, 1)) none) (cond (Nat.beq pc 28) (some (.ireturn, 1)) none)))))
def q_gX4_addSize (pc : Nat) : Option (Instr × Nat) := cond (Nat.ble pc 22) (cond (Nat.ble pc 11) (cond (Nat.ble pc 4) (cond (Nat.ble pc 0) (cond (Nat.beq pc 0) (some (.aload_n 0, 1)) none) (cond (Nat.ble pc 1) (cond (Nat.beq pc 1) (some (.getfield 21, 3)) none) (cond (Nat.beq pc 4) (some (.bipush 8, 2)) none))) (cond (Nat.ble pc 6) (cond (Nat.beq pc 6) (some (.if_icmp .lt 6, 3)) none) (cond (Nat.ble pc 9) (cond (Nat.beq pc 9) (some (.bipush (-3), 2)) none) (cond (Nat.beq pc 11) (some (.ireturn, 1)) none)))) (cond (Nat.ble pc 16) (cond (Nat.ble pc 12) (cond (Nat.beq pc 12) (some (.aload_n 0, 1)) none) (cond (Nat.ble pc 13) (cond (Nat.beq pc 13) (some (.getfield 21, 3)) none) (cond (Nat.beq pc 16) (some (.istore_n 3, 1)) none))) (cond (Nat.ble pc 18) (cond (Nat.ble pc 17) (cond (Nat.beq pc 17) (some (.aload_n 0, 1)) none) (cond (Nat.beq pc 18) (some (.getfield 11, 3)) none)) (cond (Nat.ble pc 21) (cond (Nat.beq pc 21) (some (.iload_n 3, 1)) none) (cond (Nat.beq pc 22) (some (.iload_n 1, 1)) none))))) (cond (Nat.ble pc 31) (cond (Nat.ble pc 25) (cond (Nat.ble pc 23) (cond (Nat.beq pc 23) (some (.iastore, 1)) none) (cond (Nat.ble pc 24) (cond (Nat.beq pc 24) (some (.aload_n 0, 1)) none) (cond (Nat.beq pc 25) (some (.getfield 15, 3)) none))) (cond (Nat.ble pc 29) (cond (Nat.ble pc 28) (cond (Nat.beq pc 28) (some (.iload_n 3, 1)) none) (cond (Nat.beq pc 29) (some (.iload_n 2, 1)) none)) (cond (Nat.ble pc 30) (cond (Nat.beq pc 30) (some (.iastore, 1)) none) (cond (Nat.beq pc 31) (some (.aload_n 0, 1)) none)))) (cond (Nat.ble pc 36) (cond (Nat.ble pc 32) (cond (Nat.beq pc 32) (some (.dup, 1)) none) (cond (Nat.ble pc 33) (cond (Nat.beq pc 33) (some (.getfield 21, 3)) none) (cond (Nat.beq pc 36) (some (.iconst 1, 1)) none))) (cond (Nat.ble pc 38) (cond (Nat.ble pc 37) (cond (Nat.beq pc 37) (some (.iadd, 1)) none) (cond (Nat.beq pc 38) (some (.putfield 21, 3)) none)) (cond (Nat.ble pc 41) (cond (Nat.beq pc 41) (some (.iload_n 3, 1)) none) (cond (Nat.beq pc 42) (some (.ireturn, 1)) none)))))
def q_gX4_hasSize (pc : Nat) : Option (Instr × Nat) := cond (Nat.ble pc 9) (cond (Nat.ble pc 4) (cond (Nat.ble pc 0) (cond (Nat.beq pc 0) (some (.iload_n 1, 1)) none) (cond (Nat.ble pc 1) (cond (Nat.beq pc 1) (some (.ifCond .lt 21, 3)) none) (cond (Nat.beq pc 4) (some (.iload_n 1, 1)) none))) (cond (Nat.ble pc 5) (cond (Nat.beq pc 5) (some (.aload_n 0, 1)) none) (cond (Nat.ble pc 6) (cond (Nat.beq pc 6) (some (.getfield 21, 3)) none) (cond (Nat.beq pc 9) (some (.if_icmp .ge 13, 3)) none)))) (cond (Nat.ble pc 15) (cond (Nat.ble pc 12) (cond (Nat.beq pc 12) (some (.iload_n 1, 1)) none) (cond (Nat.ble pc 13) (cond (Nat.beq pc 13) (some (.bipush 8, 2)) none) (cond (Nat.beq pc 15) (some (.if_icmp .ge 7, 3)) none))) (cond (Nat.ble pc 19) (cond (Nat.ble pc 18) (cond (Nat.beq pc 18) (some (.iconst 1, 1)) none) (cond (Nat.beq pc 19) (some (.goto 4, 3)) none)) (cond (Nat.ble pc 22) (cond (Nat.beq pc 22) (some (.iconst 0, 1)) none) (cond (Nat.beq pc 23) (some (.ireturn, 1)) none))))
def q_gX4_slatesOf (pc : Nat) : Option (Instr × Nat) := cond (Nat.ble pc 8) (cond (Nat.ble pc 1) (cond (Nat.ble pc 0) (cond (Nat.beq pc 0) (some (.aload_n 0, 1)) none) (cond (Nat.beq pc 1) (some (.iload_n 1, 1)) none)) (cond (Nat.ble pc 2) (cond (Nat.beq pc 2) (some (.invokevirtual 42, 3)) none) (cond (Nat.ble pc 5) (cond (Nat.beq pc 5) (some (.ifCond .eq 12, 3)) none) (cond (Nat.beq pc 8) (some (.aload_n 0, 1)) none)))) (cond (Nat.ble pc 13) (cond (Nat.ble pc 9) (cond (Nat.beq pc 9) (some (.getfield 18, 3)) none) (cond (Nat.ble pc 12) (cond (Nat.beq pc 12) (some (.iload_n 1, 1)) none) (cond (Nat.beq pc 13) (some (.iaload, 1)) none))) (cond (Nat.ble pc 14) (cond (Nat.beq pc 14) (some (.goto 4, 3)) none) (cond (Nat.ble pc 17) (cond (Nat.beq pc 17) (some (.iconst 0, 1)) none) (cond (Nat.beq pc 18) (some (.ireturn, 1)) none))))
def q_gX4_mostOf (pc : Nat) : Option (Instr × Nat) := cond (Nat.ble pc 40) (cond (Nat.ble pc 18) (cond (Nat.ble pc 9) (cond (Nat.ble pc 2) (cond (Nat.ble pc 0) (cond (Nat.beq pc 0) (some (.iload_n 1, 1)) none) (cond (Nat.ble pc 1) (cond (Nat.beq pc 1) (some (.i2l, 1)) none) (cond (Nat.beq pc 2) (some (.lload_n 2, 1)) none))) (cond (Nat.ble pc 3) (cond (Nat.beq pc 3) (some (.invokestatic 46, 3)) none) (cond (Nat.ble pc 6) (cond (Nat.beq pc 6) (some (.ifCond .ne 5, 3)) none) (cond (Nat.beq pc 9) (some (.iconst 0, 1)) none)))) (cond (Nat.ble pc 12) (cond (Nat.ble pc 10) (cond (Nat.beq pc 10) (some (.ireturn, 1)) none) (cond (Nat.ble pc 11) (cond (Nat.beq pc 11) (some (.aload_n 0, 1)) none) (cond (Nat.beq pc 12) (some (.getfield 25, 3)) none))) (cond (Nat.ble pc 16) (cond (Nat.ble pc 15) (cond (Nat.beq pc 15) (some (.iload_n 1, 1)) none) (cond (Nat.beq pc 16) (some (.iconst 0, 1)) none)) (cond (Nat.ble pc 17) (cond (Nat.beq pc 17) (some (.iastore, 1)) none) (cond (Nat.beq pc 18) (some (.iload_n 1, 1)) none))))) (cond (Nat.ble pc 29) (cond (Nat.ble pc 21) (cond (Nat.ble pc 19) (cond (Nat.beq pc 19) (some (.iconst 1, 1)) none) (cond (Nat.ble pc 20) (cond (Nat.beq pc 20) (some (.isub, 1)) none) (cond (Nat.beq pc 21) (some (.istore 4, 2)) none))) (cond (Nat.ble pc 25) (cond (Nat.ble pc 23) (cond (Nat.beq pc 23) (some (.iload 4, 2)) none) (cond (Nat.beq pc 25) (some (.ifCond .lt 64, 3)) none)) (cond (Nat.ble pc 28) (cond (Nat.beq pc 28) (some (.aload_n 0, 1)) none) (cond (Nat.beq pc 29) (some (.getfield 25, 3)) none)))) (cond (Nat.ble pc 35) (cond (Nat.ble pc 32) (cond (Nat.beq pc 32) (some (.iload 4, 2)) none) (cond (Nat.ble pc 34) (cond (Nat.beq pc 34) (some (.iconst 1, 1)) none) (cond (Nat.beq pc 35) (some (.iadd, 1)) none))) (cond (Nat.ble pc 37) (cond (Nat.ble pc 36) (cond (Nat.beq pc 36) (some (.iaload, 1)) none) (cond (Nat.beq pc 37) (some (.istore 5, 2)) none)) (cond (Nat.ble pc 39) (cond (Nat.beq pc 39) (some (.iconst 0, 1)) none) (cond (Nat.beq pc 40) (some (.istore 6, 2)) none)))))) (cond (Nat.ble pc 66) (cond (Nat.ble pc 53) (cond (Nat.ble pc 45) (cond (Nat.ble pc 42) (cond (Nat.beq pc 42) (some (.iload 6, 2)) none) (cond (Nat.ble pc 44) (cond (Nat.beq pc 44) (some (.aload_n 0, 1)) none) (cond (Nat.beq pc 45) (some (.getfield 21, 3)) none))) (cond (Nat.ble pc 48) (cond (Nat.beq pc 48) (some (.if_icmp .ge 26, 3)) none) (cond (Nat.ble pc 51) (cond (Nat.beq pc 51) (some (.iload 5, 2)) none) (cond (Nat.beq pc 53) (some (.aload_n 0, 1)) none)))) (cond (Nat.ble pc 58) (cond (Nat.ble pc 54) (cond (Nat.beq pc 54) (some (.iload 6, 2)) none) (cond (Nat.ble pc 56) (cond (Nat.beq pc 56) (some (.iload 4, 2)) none) (cond (Nat.beq pc 58) (some (.iload_n 1, 1)) none))) (cond (Nat.ble pc 60) (cond (Nat.ble pc 59) (cond (Nat.beq pc 59) (some (.lload_n 2, 1)) none) (cond (Nat.beq pc 60) (some (.invokevirtual 50, 3)) none)) (cond (Nat.ble pc 63) (cond (Nat.beq pc 63) (some (.invokestatic 54, 3)) none) (cond (Nat.beq pc 66) (some (.istore 5, 2)) none))))) (cond (Nat.ble pc 82) (cond (Nat.ble pc 74) (cond (Nat.ble pc 68) (cond (Nat.beq pc 68) (some (.iinc 6 1, 3)) none) (cond (Nat.ble pc 71) (cond (Nat.beq pc 71) (some (.goto (-29), 3)) none) (cond (Nat.beq pc 74) (some (.aload_n 0, 1)) none))) (cond (Nat.ble pc 78) (cond (Nat.ble pc 75) (cond (Nat.beq pc 75) (some (.getfield 25, 3)) none) (cond (Nat.beq pc 78) (some (.iload 4, 2)) none)) (cond (Nat.ble pc 80) (cond (Nat.beq pc 80) (some (.iload 5, 2)) none) (cond (Nat.beq pc 82) (some (.iastore, 1)) none)))) (cond (Nat.ble pc 89) (cond (Nat.ble pc 83) (cond (Nat.beq pc 83) (some (.iinc 4 (-1), 3)) none) (cond (Nat.ble pc 86) (cond (Nat.beq pc 86) (some (.goto (-63), 3)) none) (cond (Nat.beq pc 89) (some (.aload_n 0, 1)) none))) (cond (Nat.ble pc 93) (cond (Nat.ble pc 90) (cond (Nat.beq pc 90) (some (.getfield 25, 3)) none) (cond (Nat.beq pc 93) (some (.iconst 0, 1)) none)) (cond (Nat.ble pc 94) (cond (Nat.beq pc 94) (some (.iaload, 1)) none) (cond (Nat.beq pc 95) (some (.ireturn, 1)) none))))))
def q_gX4_mostWith (pc : Nat) : Option (Instr × Nat) := cond (Nat.ble pc 41) (cond (Nat.ble pc 23) (cond (Nat.ble pc 9) (cond (Nat.ble pc 2) (cond (Nat.ble pc 0) (cond (Nat.beq pc 0) (some (.aload_n 0, 1)) none) (cond (Nat.ble pc 1) (cond (Nat.beq pc 1) (some (.iload_n 1, 1)) none) (cond (Nat.beq pc 2) (some (.invokevirtual 42, 3)) none))) (cond (Nat.ble pc 5) (cond (Nat.beq pc 5) (some (.ifCond .eq 25, 3)) none) (cond (Nat.ble pc 8) (cond (Nat.beq pc 8) (some (.iload_n 2, 1)) none) (cond (Nat.beq pc 9) (some (.ifCond .lt 21, 3)) none)))) (cond (Nat.ble pc 15) (cond (Nat.ble pc 12) (cond (Nat.beq pc 12) (some (.iload_n 3, 1)) none) (cond (Nat.ble pc 13) (cond (Nat.beq pc 13) (some (.bipush 40, 2)) none) (cond (Nat.beq pc 15) (some (.if_icmp .gt 15, 3)) none))) (cond (Nat.ble pc 19) (cond (Nat.ble pc 18) (cond (Nat.beq pc 18) (some (.aload_n 0, 1)) none) (cond (Nat.beq pc 19) (some (.getfield 11, 3)) none)) (cond (Nat.ble pc 22) (cond (Nat.beq pc 22) (some (.iload_n 1, 1)) none) (cond (Nat.beq pc 23) (some (.iaload, 1)) none))))) (cond (Nat.ble pc 32) (cond (Nat.ble pc 26) (cond (Nat.ble pc 24) (cond (Nat.beq pc 24) (some (.iload_n 3, 1)) none) (cond (Nat.ble pc 25) (cond (Nat.beq pc 25) (some (.iload_n 2, 1)) none) (cond (Nat.beq pc 26) (some (.isub, 1)) none))) (cond (Nat.ble pc 27) (cond (Nat.beq pc 27) (some (.if_icmp .le 6, 3)) none) (cond (Nat.ble pc 30) (cond (Nat.beq pc 30) (some (.bipush (-4), 2)) none) (cond (Nat.beq pc 32) (some (.ireturn, 1)) none)))) (cond (Nat.ble pc 35) (cond (Nat.ble pc 33) (cond (Nat.beq pc 33) (some (.lconst 1, 1)) none) (cond (Nat.ble pc 34) (cond (Nat.beq pc 34) (some (.aload_n 0, 1)) none) (cond (Nat.beq pc 35) (some (.getfield 11, 3)) none))) (cond (Nat.ble pc 39) (cond (Nat.ble pc 38) (cond (Nat.beq pc 38) (some (.iload_n 1, 1)) none) (cond (Nat.beq pc 39) (some (.iaload, 1)) none)) (cond (Nat.ble pc 40) (cond (Nat.beq pc 40) (some (.lshl, 1)) none) (cond (Nat.beq pc 41) (some (.lconst 1, 1)) none)))))) (cond (Nat.ble pc 61) (cond (Nat.ble pc 49) (cond (Nat.ble pc 44) (cond (Nat.ble pc 42) (cond (Nat.beq pc 42) (some (.lsub, 1)) none) (cond (Nat.ble pc 43) (cond (Nat.beq pc 43) (some (.iload_n 2, 1)) none) (cond (Nat.beq pc 44) (some (.lshl, 1)) none))) (cond (Nat.ble pc 45) (cond (Nat.beq pc 45) (some (.lstore 6, 2)) none) (cond (Nat.ble pc 47) (cond (Nat.beq pc 47) (some (.lload 4, 2)) none) (cond (Nat.beq pc 49) (some (.lload 6, 2)) none)))) (cond (Nat.ble pc 53) (cond (Nat.ble pc 51) (cond (Nat.beq pc 51) (some (.land, 1)) none) (cond (Nat.ble pc 52) (cond (Nat.beq pc 52) (some (.lconst 0, 1)) none) (cond (Nat.beq pc 53) (some (.lcmp, 1)) none))) (cond (Nat.ble pc 57) (cond (Nat.ble pc 54) (cond (Nat.beq pc 54) (some (.ifCond .ne 26, 3)) none) (cond (Nat.beq pc 57) (some (.aload_n 0, 1)) none)) (cond (Nat.ble pc 58) (cond (Nat.beq pc 58) (some (.getfield 15, 3)) none) (cond (Nat.beq pc 61) (some (.iload_n 1, 1)) none))))) (cond (Nat.ble pc 72) (cond (Nat.ble pc 64) (cond (Nat.ble pc 62) (cond (Nat.beq pc 62) (some (.iaload, 1)) none) (cond (Nat.ble pc 63) (cond (Nat.beq pc 63) (some (.aload_n 0, 1)) none) (cond (Nat.beq pc 64) (some (.getfield 25, 3)) none))) (cond (Nat.ble pc 68) (cond (Nat.ble pc 67) (cond (Nat.beq pc 67) (some (.iload_n 2, 1)) none) (cond (Nat.beq pc 68) (some (.aload_n 0, 1)) none)) (cond (Nat.ble pc 69) (cond (Nat.beq pc 69) (some (.getfield 11, 3)) none) (cond (Nat.beq pc 72) (some (.iload_n 1, 1)) none)))) (cond (Nat.ble pc 75) (cond (Nat.ble pc 73) (cond (Nat.beq pc 73) (some (.iaload, 1)) none) (cond (Nat.ble pc 74) (cond (Nat.beq pc 74) (some (.iadd, 1)) none) (cond (Nat.beq pc 75) (some (.iaload, 1)) none))) (cond (Nat.ble pc 77) (cond (Nat.ble pc 76) (cond (Nat.beq pc 76) (some (.iadd, 1)) none) (cond (Nat.beq pc 77) (some (.goto 5, 3)) none)) (cond (Nat.ble pc 80) (cond (Nat.beq pc 80) (some (.bipush (-4), 2)) none) (cond (Nat.beq pc 82) (some (.ireturn, 1)) none))))))
def q_gX4_cut (pc : Nat) : Option (Instr × Nat) := cond (Nat.ble pc 55) (cond (Nat.ble pc 24) (cond (Nat.ble pc 11) (cond (Nat.ble pc 3) (cond (Nat.ble pc 1) (cond (Nat.ble pc 0) (cond (Nat.beq pc 0) (some (.aload_n 0, 1)) none) (cond (Nat.beq pc 1) (some (.aload_n 0, 1)) none)) (cond (Nat.ble pc 2) (cond (Nat.beq pc 2) (some (.iload_n 1, 1)) none) (cond (Nat.beq pc 3) (some (.lload_n 2, 1)) none))) (cond (Nat.ble pc 7) (cond (Nat.ble pc 4) (cond (Nat.beq pc 4) (some (.invokevirtual 60, 3)) none) (cond (Nat.beq pc 7) (some (.putfield 37, 3)) none)) (cond (Nat.ble pc 10) (cond (Nat.beq pc 10) (some (.aload_n 0, 1)) none) (cond (Nat.beq pc 11) (some (.iconst 0, 1)) none)))) (cond (Nat.ble pc 17) (cond (Nat.ble pc 15) (cond (Nat.ble pc 12) (cond (Nat.beq pc 12) (some (.putfield 31, 3)) none) (cond (Nat.beq pc 15) (some (.aload_n 0, 1)) none)) (cond (Nat.ble pc 16) (cond (Nat.beq pc 16) (some (.iconst 0, 1)) none) (cond (Nat.beq pc 17) (some (.putfield 34, 3)) none))) (cond (Nat.ble pc 21) (cond (Nat.ble pc 20) (cond (Nat.beq pc 20) (some (.iconst 0, 1)) none) (cond (Nat.beq pc 21) (some (.istore 4, 2)) none)) (cond (Nat.ble pc 23) (cond (Nat.beq pc 23) (some (.iconst 0, 1)) none) (cond (Nat.beq pc 24) (some (.istore 5, 2)) none))))) (cond (Nat.ble pc 40) (cond (Nat.ble pc 33) (cond (Nat.ble pc 28) (cond (Nat.ble pc 26) (cond (Nat.beq pc 26) (some (.iload 5, 2)) none) (cond (Nat.beq pc 28) (some (.bipush 40, 2)) none)) (cond (Nat.ble pc 30) (cond (Nat.beq pc 30) (some (.if_icmp .ge 86, 3)) none) (cond (Nat.beq pc 33) (some (.iload 4, 2)) none))) (cond (Nat.ble pc 36) (cond (Nat.ble pc 35) (cond (Nat.beq pc 35) (some (.iload_n 1, 1)) none) (cond (Nat.beq pc 36) (some (.if_icmp .ge 80, 3)) none)) (cond (Nat.ble pc 39) (cond (Nat.beq pc 39) (some (.aload_n 0, 1)) none) (cond (Nat.beq pc 40) (some (.iload 4, 2)) none)))) (cond (Nat.ble pc 47) (cond (Nat.ble pc 43) (cond (Nat.ble pc 42) (cond (Nat.beq pc 42) (some (.iload_n 1, 1)) none) (cond (Nat.beq pc 43) (some (.lload_n 2, 1)) none)) (cond (Nat.ble pc 44) (cond (Nat.beq pc 44) (some (.invokevirtual 64, 3)) none) (cond (Nat.beq pc 47) (some (.istore 6, 2)) none))) (cond (Nat.ble pc 50) (cond (Nat.ble pc 49) (cond (Nat.beq pc 49) (some (.aload_n 0, 1)) none) (cond (Nat.beq pc 50) (some (.getfield 28, 3)) none)) (cond (Nat.ble pc 53) (cond (Nat.beq pc 53) (some (.iload 5, 2)) none) (cond (Nat.beq pc 55) (some (.iload 6, 2)) none)))))) (cond (Nat.ble pc 82) (cond (Nat.ble pc 68) (cond (Nat.ble pc 60) (cond (Nat.ble pc 58) (cond (Nat.ble pc 57) (cond (Nat.beq pc 57) (some (.iastore, 1)) none) (cond (Nat.beq pc 58) (some (.aload_n 0, 1)) none)) (cond (Nat.ble pc 59) (cond (Nat.beq pc 59) (some (.dup, 1)) none) (cond (Nat.beq pc 60) (some (.getfield 31, 3)) none))) (cond (Nat.ble pc 64) (cond (Nat.ble pc 63) (cond (Nat.beq pc 63) (some (.iconst 1, 1)) none) (cond (Nat.beq pc 64) (some (.iadd, 1)) none)) (cond (Nat.ble pc 65) (cond (Nat.beq pc 65) (some (.putfield 31, 3)) none) (cond (Nat.beq pc 68) (some (.iload 6, 2)) none)))) (cond (Nat.ble pc 76) (cond (Nat.ble pc 72) (cond (Nat.ble pc 70) (cond (Nat.beq pc 70) (some (.bipush (-5), 2)) none) (cond (Nat.beq pc 72) (some (.if_icmp .ne 13, 3)) none)) (cond (Nat.ble pc 75) (cond (Nat.beq pc 75) (some (.aload_n 0, 1)) none) (cond (Nat.beq pc 76) (some (.dup, 1)) none))) (cond (Nat.ble pc 80) (cond (Nat.ble pc 77) (cond (Nat.beq pc 77) (some (.getfield 34, 3)) none) (cond (Nat.beq pc 80) (some (.iconst 1, 1)) none)) (cond (Nat.ble pc 81) (cond (Nat.beq pc 81) (some (.iadd, 1)) none) (cond (Nat.beq pc 82) (some (.putfield 34, 3)) none))))) (cond (Nat.ble pc 100) (cond (Nat.ble pc 90) (cond (Nat.ble pc 87) (cond (Nat.ble pc 85) (cond (Nat.beq pc 85) (some (.iload 4, 2)) none) (cond (Nat.beq pc 87) (some (.aload_n 0, 1)) none)) (cond (Nat.ble pc 88) (cond (Nat.beq pc 88) (some (.iload 6, 2)) none) (cond (Nat.beq pc 90) (some (.invokevirtual 42, 3)) none))) (cond (Nat.ble pc 96) (cond (Nat.ble pc 93) (cond (Nat.beq pc 93) (some (.ifCond .eq 13, 3)) none) (cond (Nat.beq pc 96) (some (.aload_n 0, 1)) none)) (cond (Nat.ble pc 97) (cond (Nat.beq pc 97) (some (.getfield 11, 3)) none) (cond (Nat.beq pc 100) (some (.iload 6, 2)) none)))) (cond (Nat.ble pc 107) (cond (Nat.ble pc 103) (cond (Nat.ble pc 102) (cond (Nat.beq pc 102) (some (.iaload, 1)) none) (cond (Nat.beq pc 103) (some (.goto 4, 3)) none)) (cond (Nat.ble pc 106) (cond (Nat.beq pc 106) (some (.iconst 1, 1)) none) (cond (Nat.beq pc 107) (some (.iadd, 1)) none))) (cond (Nat.ble pc 110) (cond (Nat.ble pc 108) (cond (Nat.beq pc 108) (some (.istore 4, 2)) none) (cond (Nat.beq pc 110) (some (.iinc 5 1, 3)) none)) (cond (Nat.ble pc 113) (cond (Nat.beq pc 113) (some (.goto (-87), 3)) none) (cond (Nat.beq pc 116) (some (.return_, 1)) none))))))
def q_gX4_pieceFor (pc : Nat) : Option (Instr × Nat) := cond (Nat.ble pc 26) (cond (Nat.ble pc 12) (cond (Nat.ble pc 4) (cond (Nat.ble pc 0) (cond (Nat.beq pc 0) (some (.iload_n 1, 1)) none) (cond (Nat.ble pc 1) (cond (Nat.beq pc 1) (some (.ifCond .lt 9, 3)) none) (cond (Nat.beq pc 4) (some (.iload_n 1, 1)) none))) (cond (Nat.ble pc 7) (cond (Nat.ble pc 5) (cond (Nat.beq pc 5) (some (.bipush 40, 2)) none) (cond (Nat.beq pc 7) (some (.if_icmp .le 6, 3)) none)) (cond (Nat.ble pc 10) (cond (Nat.beq pc 10) (some (.bipush (-5), 2)) none) (cond (Nat.beq pc 12) (some (.ireturn, 1)) none)))) (cond (Nat.ble pc 18) (cond (Nat.ble pc 14) (cond (Nat.ble pc 13) (cond (Nat.beq pc 13) (some (.iconst 0, 1)) none) (cond (Nat.beq pc 14) (some (.istore 5, 2)) none)) (cond (Nat.ble pc 16) (cond (Nat.beq pc 16) (some (.iload 5, 2)) none) (cond (Nat.beq pc 18) (some (.aload_n 0, 1)) none))) (cond (Nat.ble pc 22) (cond (Nat.ble pc 19) (cond (Nat.beq pc 19) (some (.getfield 21, 3)) none) (cond (Nat.beq pc 22) (some (.if_icmp .ge 30, 3)) none)) (cond (Nat.ble pc 25) (cond (Nat.beq pc 25) (some (.aload_n 0, 1)) none) (cond (Nat.beq pc 26) (some (.iload 5, 2)) none))))) (cond (Nat.ble pc 38) (cond (Nat.ble pc 30) (cond (Nat.ble pc 28) (cond (Nat.beq pc 28) (some (.iload_n 1, 1)) none) (cond (Nat.ble pc 29) (cond (Nat.beq pc 29) (some (.iload_n 2, 1)) none) (cond (Nat.beq pc 30) (some (.lload_n 3, 1)) none))) (cond (Nat.ble pc 34) (cond (Nat.ble pc 31) (cond (Nat.beq pc 31) (some (.invokevirtual 50, 3)) none) (cond (Nat.beq pc 34) (some (.aload_n 0, 1)) none)) (cond (Nat.ble pc 35) (cond (Nat.beq pc 35) (some (.getfield 25, 3)) none) (cond (Nat.beq pc 38) (some (.iload_n 1, 1)) none)))) (cond (Nat.ble pc 45) (cond (Nat.ble pc 40) (cond (Nat.ble pc 39) (cond (Nat.beq pc 39) (some (.iaload, 1)) none) (cond (Nat.beq pc 40) (some (.if_icmp .ne 6, 3)) none)) (cond (Nat.ble pc 43) (cond (Nat.beq pc 43) (some (.iload 5, 2)) none) (cond (Nat.beq pc 45) (some (.ireturn, 1)) none))) (cond (Nat.ble pc 49) (cond (Nat.ble pc 46) (cond (Nat.beq pc 46) (some (.iinc 5 1, 3)) none) (cond (Nat.beq pc 49) (some (.goto (-33), 3)) none)) (cond (Nat.ble pc 52) (cond (Nat.beq pc 52) (some (.bipush (-5), 2)) none) (cond (Nat.beq pc 54) (some (.ireturn, 1)) none)))))
def q_gX4_pieceAt (pc : Nat) : Option (Instr × Nat) := cond (Nat.ble pc 13) (cond (Nat.ble pc 5) (cond (Nat.ble pc 1) (cond (Nat.ble pc 0) (cond (Nat.beq pc 0) (some (.iload_n 1, 1)) none) (cond (Nat.beq pc 1) (some (.ifCond .lt 17, 3)) none)) (cond (Nat.ble pc 4) (cond (Nat.beq pc 4) (some (.iload_n 1, 1)) none) (cond (Nat.beq pc 5) (some (.aload_n 0, 1)) none))) (cond (Nat.ble pc 9) (cond (Nat.ble pc 6) (cond (Nat.beq pc 6) (some (.getfield 31, 3)) none) (cond (Nat.beq pc 9) (some (.if_icmp .ge 9, 3)) none)) (cond (Nat.ble pc 12) (cond (Nat.beq pc 12) (some (.iload_n 1, 1)) none) (cond (Nat.beq pc 13) (some (.bipush 40, 2)) none)))) (cond (Nat.ble pc 23) (cond (Nat.ble pc 18) (cond (Nat.ble pc 15) (cond (Nat.beq pc 15) (some (.if_icmp .lt 8, 3)) none) (cond (Nat.beq pc 18) (some (.bipush (-4), 2)) none)) (cond (Nat.ble pc 20) (cond (Nat.beq pc 20) (some (.goto 9, 3)) none) (cond (Nat.beq pc 23) (some (.aload_n 0, 1)) none))) (cond (Nat.ble pc 27) (cond (Nat.ble pc 24) (cond (Nat.beq pc 24) (some (.getfield 28, 3)) none) (cond (Nat.beq pc 27) (some (.iload_n 1, 1)) none)) (cond (Nat.ble pc 28) (cond (Nat.beq pc 28) (some (.iaload, 1)) none) (cond (Nat.beq pc 29) (some (.ireturn, 1)) none))))
def q_gX4_countSlates (pc : Nat) : Option (Instr × Nat) := cond (Nat.ble pc 17) (cond (Nat.ble pc 7) (cond (Nat.ble pc 2) (cond (Nat.ble pc 0) (cond (Nat.beq pc 0) (some (.iconst 0, 1)) none) (cond (Nat.ble pc 1) (cond (Nat.beq pc 1) (some (.istore_n 1, 1)) none) (cond (Nat.beq pc 2) (some (.iload_n 1, 1)) none))) (cond (Nat.ble pc 3) (cond (Nat.beq pc 3) (some (.aload_n 0, 1)) none) (cond (Nat.ble pc 4) (cond (Nat.beq pc 4) (some (.getfield 31, 3)) none) (cond (Nat.beq pc 7) (some (.if_icmp .ge 33, 3)) none)))) (cond (Nat.ble pc 12) (cond (Nat.ble pc 10) (cond (Nat.beq pc 10) (some (.aload_n 0, 1)) none) (cond (Nat.ble pc 11) (cond (Nat.beq pc 11) (some (.iload_n 1, 1)) none) (cond (Nat.beq pc 12) (some (.invokevirtual 68, 3)) none))) (cond (Nat.ble pc 15) (cond (Nat.beq pc 15) (some (.istore_n 2, 1)) none) (cond (Nat.ble pc 16) (cond (Nat.beq pc 16) (some (.aload_n 0, 1)) none) (cond (Nat.beq pc 17) (some (.iload_n 2, 1)) none))))) (cond (Nat.ble pc 29) (cond (Nat.ble pc 24) (cond (Nat.ble pc 18) (cond (Nat.beq pc 18) (some (.invokevirtual 42, 3)) none) (cond (Nat.ble pc 21) (cond (Nat.beq pc 21) (some (.ifCond .eq 13, 3)) none) (cond (Nat.beq pc 24) (some (.aload_n 0, 1)) none))) (cond (Nat.ble pc 25) (cond (Nat.beq pc 25) (some (.getfield 18, 3)) none) (cond (Nat.ble pc 28) (cond (Nat.beq pc 28) (some (.iload_n 2, 1)) none) (cond (Nat.beq pc 29) (some (.dup2, 1)) none)))) (cond (Nat.ble pc 32) (cond (Nat.ble pc 30) (cond (Nat.beq pc 30) (some (.iaload, 1)) none) (cond (Nat.ble pc 31) (cond (Nat.beq pc 31) (some (.iconst 1, 1)) none) (cond (Nat.beq pc 32) (some (.iadd, 1)) none))) (cond (Nat.ble pc 34) (cond (Nat.ble pc 33) (cond (Nat.beq pc 33) (some (.iastore, 1)) none) (cond (Nat.beq pc 34) (some (.iinc 1 1, 3)) none)) (cond (Nat.ble pc 37) (cond (Nat.beq pc 37) (some (.goto (-35), 3)) none) (cond (Nat.beq pc 40) (some (.return_, 1)) none)))))
def q_gX5_init (pc : Nat) : Option (Instr × Nat) := cond (Nat.ble pc 9) (cond (Nat.ble pc 4) (cond (Nat.ble pc 0) (cond (Nat.beq pc 0) (some (.aload_n 0, 1)) none) (cond (Nat.ble pc 1) (cond (Nat.beq pc 1) (some (.invokespecial 3, 3)) none) (cond (Nat.beq pc 4) (some (.aload_n 0, 1)) none))) (cond (Nat.ble pc 5) (cond (Nat.beq pc 5) (some (.bipush 60, 2)) none) (cond (Nat.ble pc 7) (cond (Nat.beq pc 7) (some (.newarray .long, 2)) none) (cond (Nat.beq pc 9) (some (.putfield 11, 3)) none)))) (cond (Nat.ble pc 14) (cond (Nat.ble pc 12) (cond (Nat.beq pc 12) (some (.aload_n 0, 1)) none) (cond (Nat.ble pc 13) (cond (Nat.beq pc 13) (some (.iconst 0, 1)) none) (cond (Nat.beq pc 14) (some (.putfield 15, 3)) none))) (cond (Nat.ble pc 18) (cond (Nat.ble pc 17) (cond (Nat.beq pc 17) (some (.aload_n 0, 1)) none) (cond (Nat.beq pc 18) (some (.bipush (-4), 2)) none)) (cond (Nat.ble pc 20) (cond (Nat.beq pc 20) (some (.putfield 19, 3)) none) (cond (Nat.beq pc 23) (some (.return_, 1)) none))))
def q_gX5_isLane (pc : Nat) : Option (Instr × Nat) := cond (Nat.ble pc 5) (cond (Nat.ble pc 1) (cond (Nat.ble pc 0) (cond (Nat.beq pc 0) (some (.iload_n 0, 1)) none) (cond (Nat.beq pc 1) (some (.ifCond .lt 12, 3)) none)) (cond (Nat.ble pc 4) (cond (Nat.beq pc 4) (some (.iload_n 0, 1)) none) (cond (Nat.beq pc 5) (some (.iconst 2, 1)) none))) (cond (Nat.ble pc 9) (cond (Nat.ble pc 6) (cond (Nat.beq pc 6) (some (.if_icmp .gt 7, 3)) none) (cond (Nat.beq pc 9) (some (.iconst 1, 1)) none)) (cond (Nat.ble pc 10) (cond (Nat.beq pc 10) (some (.goto 4, 3)) none) (cond (Nat.ble pc 13) (cond (Nat.beq pc 13) (some (.iconst 0, 1)) none) (cond (Nat.beq pc 14) (some (.ireturn, 1)) none))))
def q_gX5_isNothing (pc : Nat) : Option (Instr × Nat) := cond (Nat.ble pc 6) (cond (Nat.ble pc 1) (cond (Nat.ble pc 0) (cond (Nat.beq pc 0) (some (.aload_n 0, 1)) none) (cond (Nat.beq pc 1) (some (.getfield 19, 3)) none)) (cond (Nat.ble pc 4) (cond (Nat.beq pc 4) (some (.bipush (-4), 2)) none) (cond (Nat.beq pc 6) (some (.if_icmp .ne 7, 3)) none))) (cond (Nat.ble pc 10) (cond (Nat.ble pc 9) (cond (Nat.beq pc 9) (some (.iconst 1, 1)) none) (cond (Nat.beq pc 10) (some (.goto 4, 3)) none)) (cond (Nat.ble pc 13) (cond (Nat.beq pc 13) (some (.iconst 0, 1)) none) (cond (Nat.beq pc 14) (some (.ireturn, 1)) none)))
def q_gX5_renew (pc : Nat) : Option (Instr × Nat) := cond (Nat.ble pc 6) (cond (Nat.ble pc 1) (cond (Nat.ble pc 0) (cond (Nat.beq pc 0) (some (.aload_n 0, 1)) none) (cond (Nat.beq pc 1) (some (.iload_n 1, 1)) none)) (cond (Nat.ble pc 2) (cond (Nat.beq pc 2) (some (.putfield 19, 3)) none) (cond (Nat.ble pc 5) (cond (Nat.beq pc 5) (some (.aload_n 0, 1)) none) (cond (Nat.beq pc 6) (some (.iload_n 2, 1)) none)))) (cond (Nat.ble pc 11) (cond (Nat.ble pc 7) (cond (Nat.beq pc 7) (some (.putfield 15, 3)) none) (cond (Nat.ble pc 10) (cond (Nat.beq pc 10) (some (.aload_n 0, 1)) none) (cond (Nat.beq pc 11) (some (.getfield 11, 3)) none))) (cond (Nat.ble pc 14) (cond (Nat.beq pc 14) (some (.lconst 0, 1)) none) (cond (Nat.ble pc 15) (cond (Nat.beq pc 15) (some (.invokestatic 22, 3)) none) (cond (Nat.beq pc 18) (some (.return_, 1)) none))))
def q_gX5_hasCell (pc : Nat) : Option (Instr × Nat) := cond (Nat.ble pc 12) (cond (Nat.ble pc 3) (cond (Nat.ble pc 1) (cond (Nat.ble pc 0) (cond (Nat.beq pc 0) (some (.lload_n 1, 1)) none) (cond (Nat.beq pc 1) (some (.lconst 0, 1)) none)) (cond (Nat.ble pc 2) (cond (Nat.beq pc 2) (some (.lcmp, 1)) none) (cond (Nat.beq pc 3) (some (.ifCond .lt 25, 3)) none))) (cond (Nat.ble pc 7) (cond (Nat.ble pc 6) (cond (Nat.beq pc 6) (some (.lload_n 1, 1)) none) (cond (Nat.beq pc 7) (some (.aload_n 0, 1)) none)) (cond (Nat.ble pc 8) (cond (Nat.beq pc 8) (some (.getfield 15, 3)) none) (cond (Nat.ble pc 11) (cond (Nat.beq pc 11) (some (.i2l, 1)) none) (cond (Nat.beq pc 12) (some (.lcmp, 1)) none))))) (cond (Nat.ble pc 20) (cond (Nat.ble pc 16) (cond (Nat.ble pc 13) (cond (Nat.beq pc 13) (some (.ifCond .ge 15, 3)) none) (cond (Nat.beq pc 16) (some (.lload_n 1, 1)) none)) (cond (Nat.ble pc 17) (cond (Nat.beq pc 17) (some (.ldc2_w 28, 3)) none) (cond (Nat.beq pc 20) (some (.lcmp, 1)) none))) (cond (Nat.ble pc 24) (cond (Nat.ble pc 21) (cond (Nat.beq pc 21) (some (.ifCond .ge 7, 3)) none) (cond (Nat.beq pc 24) (some (.iconst 1, 1)) none)) (cond (Nat.ble pc 25) (cond (Nat.beq pc 25) (some (.goto 4, 3)) none) (cond (Nat.ble pc 28) (cond (Nat.beq pc 28) (some (.iconst 0, 1)) none) (cond (Nat.beq pc 29) (some (.ireturn, 1)) none)))))
def q_gX5_setCell (pc : Nat) : Option (Instr × Nat) := cond (Nat.ble pc 9) (cond (Nat.ble pc 2) (cond (Nat.ble pc 0) (cond (Nat.beq pc 0) (some (.aload_n 0, 1)) none) (cond (Nat.ble pc 1) (cond (Nat.beq pc 1) (some (.iload_n 1, 1)) none) (cond (Nat.beq pc 2) (some (.i2l, 1)) none))) (cond (Nat.ble pc 3) (cond (Nat.beq pc 3) (some (.invokevirtual 30, 3)) none) (cond (Nat.ble pc 6) (cond (Nat.beq pc 6) (some (.ifCond .eq 14, 3)) none) (cond (Nat.beq pc 9) (some (.aload_n 0, 1)) none)))) (cond (Nat.ble pc 14) (cond (Nat.ble pc 10) (cond (Nat.beq pc 10) (some (.getfield 11, 3)) none) (cond (Nat.ble pc 13) (cond (Nat.beq pc 13) (some (.iload_n 1, 1)) none) (cond (Nat.beq pc 14) (some (.aload_n 0, 1)) none))) (cond (Nat.ble pc 16) (cond (Nat.ble pc 15) (cond (Nat.beq pc 15) (some (.lload_n 2, 1)) none) (cond (Nat.beq pc 16) (some (.invokevirtual 34, 3)) none)) (cond (Nat.ble pc 19) (cond (Nat.beq pc 19) (some (.lastore, 1)) none) (cond (Nat.beq pc 20) (some (.return_, 1)) none))))
def q_gX5_cutToLane (pc : Nat) : Option (Instr × Nat) := cond (Nat.ble pc 35) (cond (Nat.ble pc 4) (cond (Nat.ble pc 0) (cond (Nat.beq pc 0) (some (.aload_n 0, 1)) none) (cond (Nat.ble pc 1) (cond (Nat.beq pc 1) (some (.getfield 19, 3)) none) (cond (Nat.beq pc 4) (some (.lookupswitch 38 #[(0, 28), (1, 33)], 28)) none))) (cond (Nat.ble pc 33) (cond (Nat.ble pc 32) (cond (Nat.beq pc 32) (some (.lload_n 1, 1)) none) (cond (Nat.beq pc 33) (some (.l2i, 1)) none)) (cond (Nat.ble pc 34) (cond (Nat.beq pc 34) (some (.i2b, 1)) none) (cond (Nat.beq pc 35) (some (.i2l, 1)) none)))) (cond (Nat.ble pc 39) (cond (Nat.ble pc 37) (cond (Nat.ble pc 36) (cond (Nat.beq pc 36) (some (.lreturn, 1)) none) (cond (Nat.beq pc 37) (some (.lload_n 1, 1)) none)) (cond (Nat.ble pc 38) (cond (Nat.beq pc 38) (some (.l2i, 1)) none) (cond (Nat.beq pc 39) (some (.i2s, 1)) none))) (cond (Nat.ble pc 41) (cond (Nat.ble pc 40) (cond (Nat.beq pc 40) (some (.i2l, 1)) none) (cond (Nat.beq pc 41) (some (.lreturn, 1)) none)) (cond (Nat.ble pc 42) (cond (Nat.beq pc 42) (some (.lload_n 1, 1)) none) (cond (Nat.beq pc 43) (some (.lreturn, 1)) none))))
def q_gX5_cellAt (pc : Nat) : Option (Instr × Nat) := cond (Nat.ble pc 9) (cond (Nat.ble pc 2) (cond (Nat.ble pc 0) (cond (Nat.beq pc 0) (some (.aload_n 0, 1)) none) (cond (Nat.ble pc 1) (cond (Nat.beq pc 1) (some (.lload_n 1, 1)) none) (cond (Nat.beq pc 2) (some (.invokevirtual 30, 3)) none))) (cond (Nat.ble pc 5) (cond (Nat.beq pc 5) (some (.ifCond .eq 13, 3)) none) (cond (Nat.ble pc 8) (cond (Nat.beq pc 8) (some (.aload_n 0, 1)) none) (cond (Nat.beq pc 9) (some (.getfield 11, 3)) none)))) (cond (Nat.ble pc 14) (cond (Nat.ble pc 12) (cond (Nat.beq pc 12) (some (.lload_n 1, 1)) none) (cond (Nat.ble pc 13) (cond (Nat.beq pc 13) (some (.l2i, 1)) none) (cond (Nat.beq pc 14) (some (.laload, 1)) none))) (cond (Nat.ble pc 15) (cond (Nat.beq pc 15) (some (.goto 4, 3)) none) (cond (Nat.ble pc 18) (cond (Nat.beq pc 18) (some (.lconst 0, 1)) none) (cond (Nat.beq pc 19) (some (.lreturn, 1)) none))))
def q_gX6_init (pc : Nat) : Option (Instr × Nat) := cond (Nat.ble pc 8) (cond (Nat.ble pc 1) (cond (Nat.ble pc 0) (cond (Nat.beq pc 0) (some (.aload_n 0, 1)) none) (cond (Nat.beq pc 1) (some (.invokespecial 1, 3)) none)) (cond (Nat.ble pc 4) (cond (Nat.beq pc 4) (some (.aload_n 0, 1)) none) (cond (Nat.ble pc 5) (cond (Nat.beq pc 5) (some (.sipush 200, 3)) none) (cond (Nat.beq pc 8) (some (.newarray .byte, 2)) none)))) (cond (Nat.ble pc 13) (cond (Nat.ble pc 10) (cond (Nat.beq pc 10) (some (.putfield 9, 3)) none) (cond (Nat.beq pc 13) (some (.aload_n 0, 1)) none)) (cond (Nat.ble pc 14) (cond (Nat.beq pc 14) (some (.iconst 0, 1)) none) (cond (Nat.ble pc 15) (cond (Nat.beq pc 15) (some (.putfield 13, 3)) none) (cond (Nat.beq pc 18) (some (.return_, 1)) none))))
def q_gX6_append (pc : Nat) : Option (Instr × Nat) := cond (Nat.ble pc 27) (cond (Nat.ble pc 12) (cond (Nat.ble pc 4) (cond (Nat.ble pc 0) (cond (Nat.beq pc 0) (some (.aload_n 0, 1)) none) (cond (Nat.ble pc 1) (cond (Nat.beq pc 1) (some (.getfield 13, 3)) none) (cond (Nat.beq pc 4) (some (.sipush 192, 3)) none))) (cond (Nat.ble pc 10) (cond (Nat.ble pc 7) (cond (Nat.beq pc 7) (some (.if_icmp .le 5, 3)) none) (cond (Nat.beq pc 10) (some (.iconst 0, 1)) none)) (cond (Nat.ble pc 11) (cond (Nat.beq pc 11) (some (.ireturn, 1)) none) (cond (Nat.beq pc 12) (some (.bipush 56, 2)) none)))) (cond (Nat.ble pc 19) (cond (Nat.ble pc 15) (cond (Nat.ble pc 14) (cond (Nat.beq pc 14) (some (.istore_n 3, 1)) none) (cond (Nat.beq pc 15) (some (.iload_n 3, 1)) none)) (cond (Nat.ble pc 16) (cond (Nat.beq pc 16) (some (.ifCond .lt 33, 3)) none) (cond (Nat.beq pc 19) (some (.aload_n 0, 1)) none))) (cond (Nat.ble pc 23) (cond (Nat.ble pc 20) (cond (Nat.beq pc 20) (some (.getfield 9, 3)) none) (cond (Nat.beq pc 23) (some (.aload_n 0, 1)) none)) (cond (Nat.ble pc 24) (cond (Nat.beq pc 24) (some (.getfield 13, 3)) none) (cond (Nat.beq pc 27) (some (.lload_n 1, 1)) none))))) (cond (Nat.ble pc 34) (cond (Nat.ble pc 30) (cond (Nat.ble pc 28) (cond (Nat.beq pc 28) (some (.iload_n 3, 1)) none) (cond (Nat.ble pc 29) (cond (Nat.beq pc 29) (some (.lushr, 1)) none) (cond (Nat.beq pc 30) (some (.l2i, 1)) none))) (cond (Nat.ble pc 32) (cond (Nat.ble pc 31) (cond (Nat.beq pc 31) (some (.i2b, 1)) none) (cond (Nat.beq pc 32) (some (.bastore, 1)) none)) (cond (Nat.ble pc 33) (cond (Nat.beq pc 33) (some (.aload_n 0, 1)) none) (cond (Nat.beq pc 34) (some (.dup, 1)) none)))) (cond (Nat.ble pc 40) (cond (Nat.ble pc 38) (cond (Nat.ble pc 35) (cond (Nat.beq pc 35) (some (.getfield 13, 3)) none) (cond (Nat.beq pc 38) (some (.iconst 1, 1)) none)) (cond (Nat.ble pc 39) (cond (Nat.beq pc 39) (some (.iadd, 1)) none) (cond (Nat.beq pc 40) (some (.putfield 13, 3)) none))) (cond (Nat.ble pc 46) (cond (Nat.ble pc 43) (cond (Nat.beq pc 43) (some (.iinc 3 (-8), 3)) none) (cond (Nat.beq pc 46) (some (.goto (-31), 3)) none)) (cond (Nat.ble pc 49) (cond (Nat.beq pc 49) (some (.iconst 1, 1)) none) (cond (Nat.beq pc 50) (some (.ireturn, 1)) none)))))
def q_gX6_keepFirst (pc : Nat) : Option (Instr × Nat) := cond (Nat.ble pc 9) (cond (Nat.ble pc 4) (cond (Nat.ble pc 0) (cond (Nat.beq pc 0) (some (.iload_n 1, 1)) none) (cond (Nat.ble pc 1) (cond (Nat.beq pc 1) (some (.ifCond .lt 11, 3)) none) (cond (Nat.beq pc 4) (some (.iload_n 1, 1)) none))) (cond (Nat.ble pc 5) (cond (Nat.beq pc 5) (some (.aload_n 0, 1)) none) (cond (Nat.ble pc 6) (cond (Nat.beq pc 6) (some (.getfield 13, 3)) none) (cond (Nat.beq pc 9) (some (.if_icmp .le 5, 3)) none)))) (cond (Nat.ble pc 14) (cond (Nat.ble pc 12) (cond (Nat.beq pc 12) (some (.iconst 0, 1)) none) (cond (Nat.ble pc 13) (cond (Nat.beq pc 13) (some (.ireturn, 1)) none) (cond (Nat.beq pc 14) (some (.aload_n 0, 1)) none))) (cond (Nat.ble pc 16) (cond (Nat.ble pc 15) (cond (Nat.beq pc 15) (some (.iload_n 1, 1)) none) (cond (Nat.beq pc 16) (some (.putfield 13, 3)) none)) (cond (Nat.ble pc 19) (cond (Nat.beq pc 19) (some (.iconst 1, 1)) none) (cond (Nat.beq pc 20) (some (.ireturn, 1)) none))))
def q_gX6_empty (pc : Nat) : Option (Instr × Nat) := cond (Nat.ble pc 1) (cond (Nat.ble pc 0) (cond (Nat.beq pc 0) (some (.aload_n 0, 1)) none) (cond (Nat.beq pc 1) (some (.iconst 0, 1)) none)) (cond (Nat.ble pc 2) (cond (Nat.beq pc 2) (some (.putfield 13, 3)) none) (cond (Nat.beq pc 5) (some (.return_, 1)) none))
def q_gX6_byteAt (pc : Nat) : Option (Instr × Nat) := cond (Nat.ble pc 16) (cond (Nat.ble pc 5) (cond (Nat.ble pc 1) (cond (Nat.ble pc 0) (cond (Nat.beq pc 0) (some (.iload_n 1, 1)) none) (cond (Nat.beq pc 1) (some (.ifCond .lt 18, 3)) none)) (cond (Nat.ble pc 4) (cond (Nat.beq pc 4) (some (.iload_n 1, 1)) none) (cond (Nat.beq pc 5) (some (.aload_n 0, 1)) none))) (cond (Nat.ble pc 9) (cond (Nat.ble pc 6) (cond (Nat.beq pc 6) (some (.getfield 13, 3)) none) (cond (Nat.beq pc 9) (some (.if_icmp .ge 10, 3)) none)) (cond (Nat.ble pc 12) (cond (Nat.beq pc 12) (some (.iload_n 1, 1)) none) (cond (Nat.ble pc 13) (cond (Nat.beq pc 13) (some (.sipush 200, 3)) none) (cond (Nat.beq pc 16) (some (.if_icmp .lt 7, 3)) none))))) (cond (Nat.ble pc 24) (cond (Nat.ble pc 20) (cond (Nat.ble pc 19) (cond (Nat.beq pc 19) (some (.iconst (-1), 1)) none) (cond (Nat.beq pc 20) (some (.goto 13, 3)) none)) (cond (Nat.ble pc 23) (cond (Nat.beq pc 23) (some (.aload_n 0, 1)) none) (cond (Nat.beq pc 24) (some (.getfield 9, 3)) none))) (cond (Nat.ble pc 28) (cond (Nat.ble pc 27) (cond (Nat.beq pc 27) (some (.iload_n 1, 1)) none) (cond (Nat.beq pc 28) (some (.baload, 1)) none)) (cond (Nat.ble pc 29) (cond (Nat.beq pc 29) (some (.sipush 255, 3)) none) (cond (Nat.ble pc 32) (cond (Nat.beq pc 32) (some (.iand, 1)) none) (cond (Nat.beq pc 33) (some (.ireturn, 1)) none)))))
def q_gX7_init (pc : Nat) : Option (Instr × Nat) := cond (Nat.ble pc 10) (cond (Nat.ble pc 4) (cond (Nat.ble pc 0) (cond (Nat.beq pc 0) (some (.aload_n 0, 1)) none) (cond (Nat.ble pc 1) (cond (Nat.beq pc 1) (some (.invokespecial 3, 3)) none) (cond (Nat.beq pc 4) (some (.aload_n 0, 1)) none))) (cond (Nat.ble pc 6) (cond (Nat.ble pc 5) (cond (Nat.beq pc 5) (some (.iconst 5, 1)) none) (cond (Nat.beq pc 6) (some (.putfield 9, 3)) none)) (cond (Nat.ble pc 9) (cond (Nat.beq pc 9) (some (.aload_n 0, 1)) none) (cond (Nat.beq pc 10) (some (.iconst 0, 1)) none)))) (cond (Nat.ble pc 16) (cond (Nat.ble pc 14) (cond (Nat.ble pc 11) (cond (Nat.beq pc 11) (some (.putfield 15, 3)) none) (cond (Nat.beq pc 14) (some (.aload_n 0, 1)) none)) (cond (Nat.ble pc 15) (cond (Nat.beq pc 15) (some (.iconst 0, 1)) none) (cond (Nat.beq pc 16) (some (.putfield 18, 3)) none))) (cond (Nat.ble pc 20) (cond (Nat.ble pc 19) (cond (Nat.beq pc 19) (some (.aload_n 0, 1)) none) (cond (Nat.beq pc 20) (some (.bipush (-4), 2)) none)) (cond (Nat.ble pc 22) (cond (Nat.beq pc 22) (some (.putfield 22, 3)) none) (cond (Nat.beq pc 25) (some (.return_, 1)) none))))
def q_gX8_init (pc : Nat) : Option (Instr × Nat) := cond (Nat.ble pc 73) (cond (Nat.ble pc 37) (cond (Nat.ble pc 16) (cond (Nat.ble pc 5) (cond (Nat.ble pc 1) (cond (Nat.ble pc 0) (cond (Nat.beq pc 0) (some (.aload_n 0, 1)) none) (cond (Nat.beq pc 1) (some (.invokespecial 1, 3)) none)) (cond (Nat.ble pc 4) (cond (Nat.beq pc 4) (some (.aload_n 0, 1)) none) (cond (Nat.beq pc 5) (some (.new 7, 3)) none))) (cond (Nat.ble pc 9) (cond (Nat.ble pc 8) (cond (Nat.beq pc 8) (some (.dup, 1)) none) (cond (Nat.beq pc 9) (some (.invokespecial 9, 3)) none)) (cond (Nat.ble pc 12) (cond (Nat.beq pc 12) (some (.putfield 10, 3)) none) (cond (Nat.ble pc 15) (cond (Nat.beq pc 15) (some (.aload_n 0, 1)) none) (cond (Nat.beq pc 16) (some (.new 16, 3)) none))))) (cond (Nat.ble pc 26) (cond (Nat.ble pc 20) (cond (Nat.ble pc 19) (cond (Nat.beq pc 19) (some (.dup, 1)) none) (cond (Nat.beq pc 20) (some (.invokespecial 18, 3)) none)) (cond (Nat.ble pc 23) (cond (Nat.beq pc 23) (some (.putfield 19, 3)) none) (cond (Nat.beq pc 26) (some (.aload_n 0, 1)) none))) (cond (Nat.ble pc 30) (cond (Nat.ble pc 27) (cond (Nat.beq pc 27) (some (.new 16, 3)) none) (cond (Nat.beq pc 30) (some (.dup, 1)) none)) (cond (Nat.ble pc 31) (cond (Nat.beq pc 31) (some (.invokespecial 18, 3)) none) (cond (Nat.ble pc 34) (cond (Nat.beq pc 34) (some (.putfield 23, 3)) none) (cond (Nat.beq pc 37) (some (.aload_n 0, 1)) none)))))) (cond (Nat.ble pc 54) (cond (Nat.ble pc 43) (cond (Nat.ble pc 39) (cond (Nat.ble pc 38) (cond (Nat.beq pc 38) (some (.iconst 0, 1)) none) (cond (Nat.beq pc 39) (some (.putfield 26, 3)) none)) (cond (Nat.ble pc 42) (cond (Nat.beq pc 42) (some (.aload_n 0, 1)) none) (cond (Nat.beq pc 43) (some (.new 30, 3)) none))) (cond (Nat.ble pc 47) (cond (Nat.ble pc 46) (cond (Nat.beq pc 46) (some (.dup, 1)) none) (cond (Nat.beq pc 47) (some (.invokespecial 32, 3)) none)) (cond (Nat.ble pc 50) (cond (Nat.beq pc 50) (some (.putfield 33, 3)) none) (cond (Nat.ble pc 53) (cond (Nat.beq pc 53) (some (.aload_n 0, 1)) none) (cond (Nat.beq pc 54) (some (.bipush 8, 2)) none))))) (cond (Nat.ble pc 64) (cond (Nat.ble pc 59) (cond (Nat.ble pc 56) (cond (Nat.beq pc 56) (some (.anewarray 37, 3)) none) (cond (Nat.beq pc 59) (some (.putfield 39, 3)) none)) (cond (Nat.ble pc 62) (cond (Nat.beq pc 62) (some (.aload_n 0, 1)) none) (cond (Nat.ble pc 63) (cond (Nat.beq pc 63) (some (.iconst 0, 1)) none) (cond (Nat.beq pc 64) (some (.putfield 43, 3)) none)))) (cond (Nat.ble pc 68) (cond (Nat.ble pc 67) (cond (Nat.beq pc 67) (some (.aload_n 0, 1)) none) (cond (Nat.beq pc 68) (some (.iconst 0, 1)) none)) (cond (Nat.ble pc 69) (cond (Nat.beq pc 69) (some (.putfield 46, 3)) none) (cond (Nat.ble pc 72) (cond (Nat.beq pc 72) (some (.aload_n 0, 1)) none) (cond (Nat.beq pc 73) (some (.iconst 0, 1)) none))))))) (cond (Nat.ble pc 105) (cond (Nat.ble pc 90) (cond (Nat.ble pc 79) (cond (Nat.ble pc 77) (cond (Nat.ble pc 74) (cond (Nat.beq pc 74) (some (.putfield 49, 3)) none) (cond (Nat.beq pc 77) (some (.aload_n 0, 1)) none)) (cond (Nat.ble pc 78) (cond (Nat.beq pc 78) (some (.iconst 0, 1)) none) (cond (Nat.beq pc 79) (some (.putfield 53, 3)) none))) (cond (Nat.ble pc 83) (cond (Nat.ble pc 82) (cond (Nat.beq pc 82) (some (.aload_n 0, 1)) none) (cond (Nat.beq pc 83) (some (.new 56, 3)) none)) (cond (Nat.ble pc 86) (cond (Nat.beq pc 86) (some (.dup, 1)) none) (cond (Nat.ble pc 87) (cond (Nat.beq pc 87) (some (.invokespecial 58, 3)) none) (cond (Nat.beq pc 90) (some (.putfield 59, 3)) none))))) (cond (Nat.ble pc 98) (cond (Nat.ble pc 94) (cond (Nat.ble pc 93) (cond (Nat.beq pc 93) (some (.aload_n 0, 1)) none) (cond (Nat.beq pc 94) (some (.iconst 0, 1)) none)) (cond (Nat.ble pc 95) (cond (Nat.beq pc 95) (some (.putfield 63, 3)) none) (cond (Nat.beq pc 98) (some (.aload_n 0, 1)) none))) (cond (Nat.ble pc 100) (cond (Nat.ble pc 99) (cond (Nat.beq pc 99) (some (.iconst 0, 1)) none) (cond (Nat.beq pc 100) (some (.putfield 66, 3)) none)) (cond (Nat.ble pc 103) (cond (Nat.beq pc 103) (some (.aload_n 0, 1)) none) (cond (Nat.ble pc 104) (cond (Nat.beq pc 104) (some (.iconst 0, 1)) none) (cond (Nat.beq pc 105) (some (.putfield 69, 3)) none)))))) (cond (Nat.ble pc 120) (cond (Nat.ble pc 113) (cond (Nat.ble pc 109) (cond (Nat.ble pc 108) (cond (Nat.beq pc 108) (some (.aload_n 0, 1)) none) (cond (Nat.beq pc 109) (some (.iconst 4, 1)) none)) (cond (Nat.ble pc 110) (cond (Nat.beq pc 110) (some (.anewarray 72, 3)) none) (cond (Nat.beq pc 113) (some (.putfield 74, 3)) none))) (cond (Nat.ble pc 117) (cond (Nat.ble pc 116) (cond (Nat.beq pc 116) (some (.iconst 0, 1)) none) (cond (Nat.beq pc 117) (some (.istore_n 1, 1)) none)) (cond (Nat.ble pc 118) (cond (Nat.beq pc 118) (some (.iload_n 1, 1)) none) (cond (Nat.ble pc 119) (cond (Nat.beq pc 119) (some (.iconst 4, 1)) none) (cond (Nat.beq pc 120) (some (.if_icmp .ge 22, 3)) none))))) (cond (Nat.ble pc 131) (cond (Nat.ble pc 124) (cond (Nat.ble pc 123) (cond (Nat.beq pc 123) (some (.aload_n 0, 1)) none) (cond (Nat.beq pc 124) (some (.getfield 74, 3)) none)) (cond (Nat.ble pc 127) (cond (Nat.beq pc 127) (some (.iload_n 1, 1)) none) (cond (Nat.ble pc 128) (cond (Nat.beq pc 128) (some (.new 72, 3)) none) (cond (Nat.beq pc 131) (some (.dup, 1)) none)))) (cond (Nat.ble pc 135) (cond (Nat.ble pc 132) (cond (Nat.beq pc 132) (some (.invokespecial 78, 3)) none) (cond (Nat.beq pc 135) (some (.aastore, 1)) none)) (cond (Nat.ble pc 136) (cond (Nat.beq pc 136) (some (.iinc 1 1, 3)) none) (cond (Nat.ble pc 139) (cond (Nat.beq pc 139) (some (.goto (-21), 3)) none) (cond (Nat.beq pc 142) (some (.return_, 1)) none)))))))
def q_gX8_feed (pc : Nat) : Option (Instr × Nat) := cond (Nat.ble pc 11) (cond (Nat.ble pc 4) (cond (Nat.ble pc 0) (cond (Nat.beq pc 0) (some (.aload_n 0, 1)) none) (cond (Nat.ble pc 1) (cond (Nat.beq pc 1) (some (.getfield 10, 3)) none) (cond (Nat.beq pc 4) (some (.getfield 79, 3)) none))) (cond (Nat.ble pc 7) (cond (Nat.beq pc 7) (some (.lload_n 1, 1)) none) (cond (Nat.ble pc 8) (cond (Nat.beq pc 8) (some (.invokevirtual 83, 3)) none) (cond (Nat.beq pc 11) (some (.ifCond .eq 16, 3)) none)))) (cond (Nat.ble pc 18) (cond (Nat.ble pc 14) (cond (Nat.beq pc 14) (some (.aload_n 0, 1)) none) (cond (Nat.ble pc 15) (cond (Nat.beq pc 15) (some (.getfield 10, 3)) none) (cond (Nat.beq pc 18) (some (.getfield 79, 3)) none))) (cond (Nat.ble pc 24) (cond (Nat.ble pc 21) (cond (Nat.beq pc 21) (some (.getfield 89, 3)) none) (cond (Nat.beq pc 24) (some (.goto 5, 3)) none)) (cond (Nat.ble pc 27) (cond (Nat.beq pc 27) (some (.bipush (-3), 2)) none) (cond (Nat.beq pc 29) (some (.ireturn, 1)) none))))
def q_gX8_end (pc : Nat) : Option (Instr × Nat) := cond (Nat.ble pc 12) (cond (Nat.ble pc 4) (cond (Nat.ble pc 0) (cond (Nat.beq pc 0) (some (.aload_n 0, 1)) none) (cond (Nat.ble pc 1) (cond (Nat.beq pc 1) (some (.getfield 10, 3)) none) (cond (Nat.beq pc 4) (some (.getfield 79, 3)) none))) (cond (Nat.ble pc 10) (cond (Nat.ble pc 7) (cond (Nat.beq pc 7) (some (.getfield 89, 3)) none) (cond (Nat.beq pc 10) (some (.istore_n 2, 1)) none)) (cond (Nat.ble pc 11) (cond (Nat.beq pc 11) (some (.aload_n 0, 1)) none) (cond (Nat.beq pc 12) (some (.getfield 10, 3)) none)))) (cond (Nat.ble pc 22) (cond (Nat.ble pc 18) (cond (Nat.ble pc 15) (cond (Nat.beq pc 15) (some (.getfield 79, 3)) none) (cond (Nat.beq pc 18) (some (.iload_n 1, 1)) none)) (cond (Nat.ble pc 19) (cond (Nat.beq pc 19) (some (.invokevirtual 92, 3)) none) (cond (Nat.beq pc 22) (some (.ifCond .eq 7, 3)) none))) (cond (Nat.ble pc 26) (cond (Nat.ble pc 25) (cond (Nat.beq pc 25) (some (.iload_n 2, 1)) none) (cond (Nat.beq pc 26) (some (.goto 4, 3)) none)) (cond (Nat.ble pc 29) (cond (Nat.beq pc 29) (some (.iconst (-1), 1)) none) (cond (Nat.beq pc 30) (some (.ireturn, 1)) none))))
def q_gX8_laws (pc : Nat) : Option (Instr × Nat) := cond (Nat.ble pc 39) (cond (Nat.ble pc 16) (cond (Nat.ble pc 7) (cond (Nat.ble pc 1) (cond (Nat.ble pc 0) (cond (Nat.beq pc 0) (some (.aload_n 0, 1)) none) (cond (Nat.beq pc 1) (some (.getfield 23, 3)) none)) (cond (Nat.ble pc 4) (cond (Nat.beq pc 4) (some (.invokevirtual 96, 3)) none) (cond (Nat.beq pc 7) (some (.aload_n 0, 1)) none))) (cond (Nat.ble pc 9) (cond (Nat.ble pc 8) (cond (Nat.beq pc 8) (some (.aload_n 0, 1)) none) (cond (Nat.beq pc 9) (some (.getfield 10, 3)) none)) (cond (Nat.ble pc 12) (cond (Nat.beq pc 12) (some (.aload_n 0, 1)) none) (cond (Nat.ble pc 13) (cond (Nat.beq pc 13) (some (.getfield 23, 3)) none) (cond (Nat.beq pc 16) (some (.invokevirtual 99, 3)) none))))) (cond (Nat.ble pc 26) (cond (Nat.ble pc 22) (cond (Nat.ble pc 19) (cond (Nat.beq pc 19) (some (.putfield 26, 3)) none) (cond (Nat.beq pc 22) (some (.aload_n 0, 1)) none)) (cond (Nat.ble pc 23) (cond (Nat.beq pc 23) (some (.getfield 10, 3)) none) (cond (Nat.beq pc 26) (some (.getfield 79, 3)) none))) (cond (Nat.ble pc 32) (cond (Nat.ble pc 29) (cond (Nat.beq pc 29) (some (.invokevirtual 103, 3)) none) (cond (Nat.beq pc 32) (some (.aload_n 0, 1)) none)) (cond (Nat.ble pc 33) (cond (Nat.beq pc 33) (some (.getfield 26, 3)) none) (cond (Nat.ble pc 36) (cond (Nat.beq pc 36) (some (.ifCond .eq 14, 3)) none) (cond (Nat.beq pc 39) (some (.bipush (-10), 2)) none)))))) (cond (Nat.ble pc 55) (cond (Nat.ble pc 48) (cond (Nat.ble pc 42) (cond (Nat.ble pc 41) (cond (Nat.beq pc 41) (some (.aload_n 0, 1)) none) (cond (Nat.beq pc 42) (some (.getfield 10, 3)) none)) (cond (Nat.ble pc 45) (cond (Nat.beq pc 45) (some (.getfield 106, 3)) none) (cond (Nat.beq pc 48) (some (.isub, 1)) none))) (cond (Nat.ble pc 50) (cond (Nat.ble pc 49) (cond (Nat.beq pc 49) (some (.ireturn, 1)) none) (cond (Nat.beq pc 50) (some (.aload_n 0, 1)) none)) (cond (Nat.ble pc 51) (cond (Nat.beq pc 51) (some (.getfield 19, 3)) none) (cond (Nat.ble pc 54) (cond (Nat.beq pc 54) (some (.astore_n 1, 1)) none) (cond (Nat.beq pc 55) (some (.aload_n 0, 1)) none))))) (cond (Nat.ble pc 64) (cond (Nat.ble pc 57) (cond (Nat.ble pc 56) (cond (Nat.beq pc 56) (some (.aload_n 0, 1)) none) (cond (Nat.beq pc 57) (some (.getfield 23, 3)) none)) (cond (Nat.ble pc 60) (cond (Nat.beq pc 60) (some (.putfield 19, 3)) none) (cond (Nat.ble pc 63) (cond (Nat.beq pc 63) (some (.aload_n 0, 1)) none) (cond (Nat.beq pc 64) (some (.aload_n 1, 1)) none)))) (cond (Nat.ble pc 68) (cond (Nat.ble pc 65) (cond (Nat.beq pc 65) (some (.putfield 23, 3)) none) (cond (Nat.beq pc 68) (some (.aload_n 0, 1)) none)) (cond (Nat.ble pc 69) (cond (Nat.beq pc 69) (some (.getfield 19, 3)) none) (cond (Nat.ble pc 72) (cond (Nat.beq pc 72) (some (.getfield 109, 3)) none) (cond (Nat.beq pc 75) (some (.ireturn, 1)) none))))))
def q_gX8_fault (pc : Nat) : Option (Instr × Nat) := cond (Nat.ble pc 0) (cond (Nat.beq pc 0) (some (.aload_n 0, 1)) none) (cond (Nat.ble pc 1) (cond (Nat.beq pc 1) (some (.getfield 26, 3)) none) (cond (Nat.beq pc 4) (some (.ireturn, 1)) none))
def q_gX8_law (pc : Nat) : Option (Instr × Nat) := cond (Nat.ble pc 19) (cond (Nat.ble pc 9) (cond (Nat.ble pc 4) (cond (Nat.ble pc 0) (cond (Nat.beq pc 0) (some (.iload_n 1, 1)) none) (cond (Nat.ble pc 1) (cond (Nat.beq pc 1) (some (.ifCond .lt 17, 3)) none) (cond (Nat.beq pc 4) (some (.iload_n 1, 1)) none))) (cond (Nat.ble pc 5) (cond (Nat.beq pc 5) (some (.iconst 4, 1)) none) (cond (Nat.ble pc 6) (cond (Nat.beq pc 6) (some (.if_icmp .ge 12, 3)) none) (cond (Nat.beq pc 9) (some (.aload_n 0, 1)) none)))) (cond (Nat.ble pc 14) (cond (Nat.ble pc 10) (cond (Nat.beq pc 10) (some (.getfield 19, 3)) none) (cond (Nat.ble pc 13) (cond (Nat.beq pc 13) (some (.iload_n 1, 1)) none) (cond (Nat.beq pc 14) (some (.invokevirtual 112, 3)) none))) (cond (Nat.ble pc 17) (cond (Nat.beq pc 17) (some (.ireturn, 1)) none) (cond (Nat.ble pc 18) (cond (Nat.beq pc 18) (some (.iload_n 1, 1)) none) (cond (Nat.beq pc 19) (some (.bipush 10, 2)) none))))) (cond (Nat.ble pc 30) (cond (Nat.ble pc 23) (cond (Nat.ble pc 21) (cond (Nat.beq pc 21) (some (.isub, 1)) none) (cond (Nat.ble pc 22) (cond (Nat.beq pc 22) (some (.istore_n 2, 1)) none) (cond (Nat.beq pc 23) (some (.iload_n 2, 1)) none))) (cond (Nat.ble pc 24) (cond (Nat.beq pc 24) (some (.invokestatic 116, 3)) none) (cond (Nat.ble pc 27) (cond (Nat.beq pc 27) (some (.ifCond .eq 14, 3)) none) (cond (Nat.beq pc 30) (some (.aload_n 0, 1)) none)))) (cond (Nat.ble pc 35) (cond (Nat.ble pc 31) (cond (Nat.beq pc 31) (some (.getfield 19, 3)) none) (cond (Nat.ble pc 34) (cond (Nat.beq pc 34) (some (.iload_n 2, 1)) none) (cond (Nat.beq pc 35) (some (.invokevirtual 119, 3)) none))) (cond (Nat.ble pc 38) (cond (Nat.beq pc 38) (some (.goto 4, 3)) none) (cond (Nat.ble pc 41) (cond (Nat.beq pc 41) (some (.iconst (-1), 1)) none) (cond (Nat.beq pc 42) (some (.ireturn, 1)) none)))))
def q_gX8_rock (pc : Nat) : Option (Instr × Nat) := cond (Nat.ble pc 20) (cond (Nat.ble pc 6) (cond (Nat.ble pc 1) (cond (Nat.ble pc 0) (cond (Nat.beq pc 0) (some (.aload_n 0, 1)) none) (cond (Nat.beq pc 1) (some (.getfield 33, 3)) none)) (cond (Nat.ble pc 4) (cond (Nat.beq pc 4) (some (.iload_n 1, 1)) none) (cond (Nat.ble pc 5) (cond (Nat.beq pc 5) (some (.iload_n 2, 1)) none) (cond (Nat.beq pc 6) (some (.invokestatic 122, 3)) none)))) (cond (Nat.ble pc 14) (cond (Nat.ble pc 9) (cond (Nat.beq pc 9) (some (.invokevirtual 126, 3)) none) (cond (Nat.ble pc 12) (cond (Nat.beq pc 12) (some (.astore 4, 2)) none) (cond (Nat.beq pc 14) (some (.aload 4, 2)) none))) (cond (Nat.ble pc 16) (cond (Nat.beq pc 16) (some (.ifnull 10, 3)) none) (cond (Nat.ble pc 19) (cond (Nat.beq pc 19) (some (.iload_n 3, 1)) none) (cond (Nat.beq pc 20) (some (.invokestatic 116, 3)) none))))) (cond (Nat.ble pc 30) (cond (Nat.ble pc 26) (cond (Nat.ble pc 23) (cond (Nat.beq pc 23) (some (.ifCond .ne 5, 3)) none) (cond (Nat.beq pc 26) (some (.iconst (-1), 1)) none)) (cond (Nat.ble pc 27) (cond (Nat.beq pc 27) (some (.ireturn, 1)) none) (cond (Nat.ble pc 28) (cond (Nat.beq pc 28) (some (.aload 4, 2)) none) (cond (Nat.beq pc 30) (some (.getfield 130, 3)) none)))) (cond (Nat.ble pc 37) (cond (Nat.ble pc 33) (cond (Nat.beq pc 33) (some (.istore 5, 2)) none) (cond (Nat.ble pc 35) (cond (Nat.beq pc 35) (some (.aload 4, 2)) none) (cond (Nat.beq pc 37) (some (.iload_n 3, 1)) none))) (cond (Nat.ble pc 38) (cond (Nat.beq pc 38) (some (.putfield 130, 3)) none) (cond (Nat.ble pc 41) (cond (Nat.beq pc 41) (some (.iload 5, 2)) none) (cond (Nat.beq pc 43) (some (.ireturn, 1)) none)))))
def q_gX8_face (pc : Nat) : Option (Instr × Nat) := cond (Nat.ble pc 71) (cond (Nat.ble pc 18) (cond (Nat.ble pc 7) (cond (Nat.ble pc 1) (cond (Nat.ble pc 0) (cond (Nat.beq pc 0) (some (.iload_n 1, 1)) none) (cond (Nat.beq pc 1) (some (.iload_n 2, 1)) none)) (cond (Nat.ble pc 2) (cond (Nat.beq pc 2) (some (.invokestatic 122, 3)) none) (cond (Nat.ble pc 5) (cond (Nat.beq pc 5) (some (.istore 4, 2)) none) (cond (Nat.beq pc 7) (some (.aload_n 0, 1)) none)))) (cond (Nat.ble pc 11) (cond (Nat.ble pc 8) (cond (Nat.beq pc 8) (some (.getfield 33, 3)) none) (cond (Nat.beq pc 11) (some (.iload 4, 2)) none)) (cond (Nat.ble pc 13) (cond (Nat.beq pc 13) (some (.invokevirtual 126, 3)) none) (cond (Nat.ble pc 16) (cond (Nat.beq pc 16) (some (.astore 5, 2)) none) (cond (Nat.beq pc 18) (some (.aload 5, 2)) none))))) (cond (Nat.ble pc 26) (cond (Nat.ble pc 23) (cond (Nat.ble pc 20) (cond (Nat.beq pc 20) (some (.ifnonnull 5, 3)) none) (cond (Nat.beq pc 23) (some (.iconst (-1), 1)) none)) (cond (Nat.ble pc 24) (cond (Nat.beq pc 24) (some (.ireturn, 1)) none) (cond (Nat.ble pc 25) (cond (Nat.beq pc 25) (some (.iload_n 3, 1)) none) (cond (Nat.beq pc 26) (some (.tableswitch 84 0 4 #[34, 40, 46, 60, 78], 34)) none)))) (cond (Nat.ble pc 65) (cond (Nat.ble pc 60) (cond (Nat.beq pc 60) (some (.aload 5, 2)) none) (cond (Nat.ble pc 62) (cond (Nat.beq pc 62) (some (.getfield 130, 3)) none) (cond (Nat.beq pc 65) (some (.ireturn, 1)) none))) (cond (Nat.ble pc 66) (cond (Nat.beq pc 66) (some (.aload 5, 2)) none) (cond (Nat.ble pc 68) (cond (Nat.beq pc 68) (some (.getfield 135, 3)) none) (cond (Nat.beq pc 71) (some (.ireturn, 1)) none)))))) (cond (Nat.ble pc 90) (cond (Nat.ble pc 81) (cond (Nat.ble pc 74) (cond (Nat.ble pc 72) (cond (Nat.beq pc 72) (some (.aload 5, 2)) none) (cond (Nat.beq pc 74) (some (.getfield 138, 3)) none)) (cond (Nat.ble pc 77) (cond (Nat.beq pc 77) (some (.ifCond .eq 7, 3)) none) (cond (Nat.ble pc 80) (cond (Nat.beq pc 80) (some (.iconst 1, 1)) none) (cond (Nat.beq pc 81) (some (.goto 4, 3)) none)))) (cond (Nat.ble pc 85) (cond (Nat.ble pc 84) (cond (Nat.beq pc 84) (some (.iconst 0, 1)) none) (cond (Nat.beq pc 85) (some (.ireturn, 1)) none)) (cond (Nat.ble pc 86) (cond (Nat.beq pc 86) (some (.aload_n 0, 1)) none) (cond (Nat.ble pc 87) (cond (Nat.beq pc 87) (some (.getfield 33, 3)) none) (cond (Nat.beq pc 90) (some (.iload 4, 2)) none))))) (cond (Nat.ble pc 102) (cond (Nat.ble pc 95) (cond (Nat.ble pc 92) (cond (Nat.beq pc 92) (some (.invokevirtual 141, 3)) none) (cond (Nat.beq pc 95) (some (.ifCond .eq 7, 3)) none)) (cond (Nat.ble pc 98) (cond (Nat.beq pc 98) (some (.iconst 1, 1)) none) (cond (Nat.ble pc 99) (cond (Nat.beq pc 99) (some (.goto 4, 3)) none) (cond (Nat.beq pc 102) (some (.iconst 0, 1)) none)))) (cond (Nat.ble pc 106) (cond (Nat.ble pc 103) (cond (Nat.beq pc 103) (some (.ireturn, 1)) none) (cond (Nat.ble pc 104) (cond (Nat.beq pc 104) (some (.aload 5, 2)) none) (cond (Nat.beq pc 106) (some (.getfield 144, 3)) none))) (cond (Nat.ble pc 109) (cond (Nat.beq pc 109) (some (.ireturn, 1)) none) (cond (Nat.ble pc 110) (cond (Nat.beq pc 110) (some (.iconst (-1), 1)) none) (cond (Nat.beq pc 111) (some (.ireturn, 1)) none))))))
def q_gX8_clear (pc : Nat) : Option (Instr × Nat) := cond (Nat.ble pc 33) (cond (Nat.ble pc 15) (cond (Nat.ble pc 5) (cond (Nat.ble pc 1) (cond (Nat.ble pc 0) (cond (Nat.beq pc 0) (some (.aload_n 0, 1)) none) (cond (Nat.beq pc 1) (some (.getfield 33, 3)) none)) (cond (Nat.ble pc 4) (cond (Nat.beq pc 4) (some (.iload_n 1, 1)) none) (cond (Nat.beq pc 5) (some (.iload_n 2, 1)) none))) (cond (Nat.ble pc 9) (cond (Nat.ble pc 6) (cond (Nat.beq pc 6) (some (.invokestatic 122, 3)) none) (cond (Nat.beq pc 9) (some (.invokevirtual 126, 3)) none)) (cond (Nat.ble pc 12) (cond (Nat.beq pc 12) (some (.astore 4, 2)) none) (cond (Nat.ble pc 14) (cond (Nat.beq pc 14) (some (.aload_n 0, 1)) none) (cond (Nat.beq pc 15) (some (.iload_n 3, 1)) none))))) (cond (Nat.ble pc 22) (cond (Nat.ble pc 17) (cond (Nat.ble pc 16) (cond (Nat.beq pc 16) (some (.i2l, 1)) none) (cond (Nat.beq pc 17) (some (.invokevirtual 147, 3)) none)) (cond (Nat.ble pc 20) (cond (Nat.beq pc 20) (some (.astore 5, 2)) none) (cond (Nat.beq pc 22) (some (.aload 4, 2)) none))) (cond (Nat.ble pc 27) (cond (Nat.ble pc 24) (cond (Nat.beq pc 24) (some (.ifnull 8, 3)) none) (cond (Nat.beq pc 27) (some (.aload 5, 2)) none)) (cond (Nat.ble pc 29) (cond (Nat.beq pc 29) (some (.ifnonnull 5, 3)) none) (cond (Nat.ble pc 32) (cond (Nat.beq pc 32) (some (.iconst (-1), 1)) none) (cond (Nat.beq pc 33) (some (.ireturn, 1)) none)))))) (cond (Nat.ble pc 51) (cond (Nat.ble pc 42) (cond (Nat.ble pc 36) (cond (Nat.ble pc 34) (cond (Nat.beq pc 34) (some (.aload 4, 2)) none) (cond (Nat.beq pc 36) (some (.getfield 138, 3)) none)) (cond (Nat.ble pc 39) (cond (Nat.beq pc 39) (some (.ifCond .ne 6, 3)) none) (cond (Nat.beq pc 42) (some (.bipush (-2), 2)) none))) (cond (Nat.ble pc 45) (cond (Nat.ble pc 44) (cond (Nat.beq pc 44) (some (.ireturn, 1)) none) (cond (Nat.beq pc 45) (some (.aload 4, 2)) none)) (cond (Nat.ble pc 47) (cond (Nat.beq pc 47) (some (.iconst 0, 1)) none) (cond (Nat.ble pc 48) (cond (Nat.beq pc 48) (some (.putfield 138, 3)) none) (cond (Nat.beq pc 51) (some (.aload 5, 2)) none))))) (cond (Nat.ble pc 61) (cond (Nat.ble pc 54) (cond (Nat.ble pc 53) (cond (Nat.beq pc 53) (some (.dup, 1)) none) (cond (Nat.beq pc 54) (some (.getfield 151, 3)) none)) (cond (Nat.ble pc 57) (cond (Nat.beq pc 57) (some (.bipush 20, 2)) none) (cond (Nat.ble pc 59) (cond (Nat.beq pc 59) (some (.aload 5, 2)) none) (cond (Nat.beq pc 61) (some (.getfield 154, 3)) none)))) (cond (Nat.ble pc 65) (cond (Nat.ble pc 64) (cond (Nat.beq pc 64) (some (.imul, 1)) none) (cond (Nat.beq pc 65) (some (.iadd, 1)) none)) (cond (Nat.ble pc 66) (cond (Nat.beq pc 66) (some (.putfield 151, 3)) none) (cond (Nat.ble pc 69) (cond (Nat.beq pc 69) (some (.iconst 1, 1)) none) (cond (Nat.beq pc 70) (some (.ireturn, 1)) none))))))
def q_gX8_gang (pc : Nat) : Option (Instr × Nat) := cond (Nat.ble pc 26) (cond (Nat.ble pc 12) (cond (Nat.ble pc 5) (cond (Nat.ble pc 1) (cond (Nat.ble pc 0) (cond (Nat.beq pc 0) (some (.iload_n 1, 1)) none) (cond (Nat.beq pc 1) (some (.iconst 1, 1)) none)) (cond (Nat.ble pc 2) (cond (Nat.beq pc 2) (some (.if_icmp .lt 9, 3)) none) (cond (Nat.beq pc 5) (some (.iload_n 1, 1)) none))) (cond (Nat.ble pc 8) (cond (Nat.ble pc 6) (cond (Nat.beq pc 6) (some (.bipush 6, 2)) none) (cond (Nat.beq pc 8) (some (.if_icmp .le 5, 3)) none)) (cond (Nat.ble pc 11) (cond (Nat.beq pc 11) (some (.iconst (-1), 1)) none) (cond (Nat.beq pc 12) (some (.ireturn, 1)) none)))) (cond (Nat.ble pc 19) (cond (Nat.ble pc 14) (cond (Nat.ble pc 13) (cond (Nat.beq pc 13) (some (.aload_n 0, 1)) none) (cond (Nat.beq pc 14) (some (.getfield 43, 3)) none)) (cond (Nat.ble pc 17) (cond (Nat.beq pc 17) (some (.bipush 8, 2)) none) (cond (Nat.beq pc 19) (some (.if_icmp .lt 6, 3)) none))) (cond (Nat.ble pc 24) (cond (Nat.ble pc 22) (cond (Nat.beq pc 22) (some (.bipush (-3), 2)) none) (cond (Nat.beq pc 24) (some (.ireturn, 1)) none)) (cond (Nat.ble pc 25) (cond (Nat.beq pc 25) (some (.aload_n 0, 1)) none) (cond (Nat.beq pc 26) (some (.getfield 43, 3)) none))))) (cond (Nat.ble pc 40) (cond (Nat.ble pc 34) (cond (Nat.ble pc 30) (cond (Nat.ble pc 29) (cond (Nat.beq pc 29) (some (.istore_n 2, 1)) none) (cond (Nat.beq pc 30) (some (.aload_n 0, 1)) none)) (cond (Nat.ble pc 31) (cond (Nat.beq pc 31) (some (.getfield 39, 3)) none) (cond (Nat.beq pc 34) (some (.iload_n 2, 1)) none))) (cond (Nat.ble pc 38) (cond (Nat.ble pc 35) (cond (Nat.beq pc 35) (some (.new 37, 3)) none) (cond (Nat.beq pc 38) (some (.dup, 1)) none)) (cond (Nat.ble pc 39) (cond (Nat.beq pc 39) (some (.iload_n 1, 1)) none) (cond (Nat.beq pc 40) (some (.invokespecial 157, 3)) none)))) (cond (Nat.ble pc 46) (cond (Nat.ble pc 44) (cond (Nat.ble pc 43) (cond (Nat.beq pc 43) (some (.aastore, 1)) none) (cond (Nat.beq pc 44) (some (.aload_n 0, 1)) none)) (cond (Nat.ble pc 45) (cond (Nat.beq pc 45) (some (.dup, 1)) none) (cond (Nat.beq pc 46) (some (.getfield 43, 3)) none))) (cond (Nat.ble pc 50) (cond (Nat.ble pc 49) (cond (Nat.beq pc 49) (some (.iconst 1, 1)) none) (cond (Nat.beq pc 50) (some (.iadd, 1)) none)) (cond (Nat.ble pc 51) (cond (Nat.beq pc 51) (some (.putfield 43, 3)) none) (cond (Nat.ble pc 54) (cond (Nat.beq pc 54) (some (.iload_n 2, 1)) none) (cond (Nat.beq pc 55) (some (.ireturn, 1)) none))))))
def q_gX8_told (pc : Nat) : Option (Instr × Nat) := cond (Nat.ble pc 57) (cond (Nat.ble pc 8) (cond (Nat.ble pc 2) (cond (Nat.ble pc 0) (cond (Nat.beq pc 0) (some (.aload_n 0, 1)) none) (cond (Nat.ble pc 1) (cond (Nat.beq pc 1) (some (.iload_n 1, 1)) none) (cond (Nat.beq pc 2) (some (.i2l, 1)) none))) (cond (Nat.ble pc 6) (cond (Nat.ble pc 3) (cond (Nat.beq pc 3) (some (.invokevirtual 147, 3)) none) (cond (Nat.beq pc 6) (some (.astore_n 3, 1)) none)) (cond (Nat.ble pc 7) (cond (Nat.beq pc 7) (some (.aload_n 3, 1)) none) (cond (Nat.beq pc 8) (some (.ifnonnull 6, 3)) none)))) (cond (Nat.ble pc 15) (cond (Nat.ble pc 13) (cond (Nat.ble pc 11) (cond (Nat.beq pc 11) (some (.ldc 160, 2)) none) (cond (Nat.beq pc 13) (some (.ireturn, 1)) none)) (cond (Nat.ble pc 14) (cond (Nat.beq pc 14) (some (.iload_n 2, 1)) none) (cond (Nat.beq pc 15) (some (.tableswitch 67 0 5 #[37, 42, 47, 52, 57, 62], 37)) none))) (cond (Nat.ble pc 53) (cond (Nat.ble pc 52) (cond (Nat.beq pc 52) (some (.aload_n 3, 1)) none) (cond (Nat.beq pc 53) (some (.getfield 154, 3)) none)) (cond (Nat.ble pc 56) (cond (Nat.beq pc 56) (some (.ireturn, 1)) none) (cond (Nat.beq pc 57) (some (.aload_n 3, 1)) none))))) (cond (Nat.ble pc 71) (cond (Nat.ble pc 63) (cond (Nat.ble pc 61) (cond (Nat.ble pc 58) (cond (Nat.beq pc 58) (some (.getfield 151, 3)) none) (cond (Nat.beq pc 61) (some (.ireturn, 1)) none)) (cond (Nat.ble pc 62) (cond (Nat.beq pc 62) (some (.aload_n 3, 1)) none) (cond (Nat.beq pc 63) (some (.getfield 161, 3)) none))) (cond (Nat.ble pc 67) (cond (Nat.ble pc 66) (cond (Nat.beq pc 66) (some (.ireturn, 1)) none) (cond (Nat.beq pc 67) (some (.aload_n 3, 1)) none)) (cond (Nat.ble pc 68) (cond (Nat.beq pc 68) (some (.getfield 164, 3)) none) (cond (Nat.beq pc 71) (some (.ireturn, 1)) none)))) (cond (Nat.ble pc 77) (cond (Nat.ble pc 73) (cond (Nat.ble pc 72) (cond (Nat.beq pc 72) (some (.aload_n 3, 1)) none) (cond (Nat.beq pc 73) (some (.getfield 167, 3)) none)) (cond (Nat.ble pc 76) (cond (Nat.beq pc 76) (some (.ireturn, 1)) none) (cond (Nat.beq pc 77) (some (.aload_n 3, 1)) none))) (cond (Nat.ble pc 81) (cond (Nat.ble pc 78) (cond (Nat.beq pc 78) (some (.getfield 170, 3)) none) (cond (Nat.beq pc 81) (some (.ireturn, 1)) none)) (cond (Nat.ble pc 82) (cond (Nat.beq pc 82) (some (.ldc 160, 2)) none) (cond (Nat.beq pc 84) (some (.ireturn, 1)) none)))))
def q_gX8_move (pc : Nat) : Option (Instr × Nat) := cond (Nat.ble pc 65) (cond (Nat.ble pc 31) (cond (Nat.ble pc 11) (cond (Nat.ble pc 3) (cond (Nat.ble pc 1) (cond (Nat.ble pc 0) (cond (Nat.beq pc 0) (some (.aload_n 0, 1)) none) (cond (Nat.beq pc 1) (some (.iload_n 1, 1)) none)) (cond (Nat.ble pc 2) (cond (Nat.beq pc 2) (some (.i2l, 1)) none) (cond (Nat.beq pc 3) (some (.invokevirtual 147, 3)) none))) (cond (Nat.ble pc 8) (cond (Nat.ble pc 6) (cond (Nat.beq pc 6) (some (.astore 4, 2)) none) (cond (Nat.beq pc 8) (some (.aload_n 0, 1)) none)) (cond (Nat.ble pc 9) (cond (Nat.beq pc 9) (some (.iload_n 2, 1)) none) (cond (Nat.ble pc 10) (cond (Nat.beq pc 10) (some (.i2l, 1)) none) (cond (Nat.beq pc 11) (some (.invokevirtual 147, 3)) none))))) (cond (Nat.ble pc 21) (cond (Nat.ble pc 16) (cond (Nat.ble pc 14) (cond (Nat.beq pc 14) (some (.astore 5, 2)) none) (cond (Nat.beq pc 16) (some (.aload 4, 2)) none)) (cond (Nat.ble pc 18) (cond (Nat.beq pc 18) (some (.ifnull 13, 3)) none) (cond (Nat.beq pc 21) (some (.aload 5, 2)) none))) (cond (Nat.ble pc 26) (cond (Nat.ble pc 23) (cond (Nat.beq pc 23) (some (.ifnull 8, 3)) none) (cond (Nat.beq pc 26) (some (.iload_n 1, 1)) none)) (cond (Nat.ble pc 27) (cond (Nat.beq pc 27) (some (.iload_n 2, 1)) none) (cond (Nat.ble pc 28) (cond (Nat.beq pc 28) (some (.if_icmp .ne 6, 3)) none) (cond (Nat.beq pc 31) (some (.ldc 160, 2)) none)))))) (cond (Nat.ble pc 48) (cond (Nat.ble pc 36) (cond (Nat.ble pc 34) (cond (Nat.ble pc 33) (cond (Nat.beq pc 33) (some (.ireturn, 1)) none) (cond (Nat.beq pc 34) (some (.iload_n 3, 1)) none)) (cond (Nat.ble pc 35) (cond (Nat.beq pc 35) (some (.iconst 1, 1)) none) (cond (Nat.beq pc 36) (some (.if_icmp .lt 24, 3)) none))) (cond (Nat.ble pc 40) (cond (Nat.ble pc 39) (cond (Nat.beq pc 39) (some (.iload_n 3, 1)) none) (cond (Nat.beq pc 40) (some (.aload 4, 2)) none)) (cond (Nat.ble pc 42) (cond (Nat.beq pc 42) (some (.getfield 154, 3)) none) (cond (Nat.ble pc 45) (cond (Nat.beq pc 45) (some (.if_icmp .ge 15, 3)) none) (cond (Nat.beq pc 48) (some (.iload_n 3, 1)) none))))) (cond (Nat.ble pc 56) (cond (Nat.ble pc 51) (cond (Nat.ble pc 49) (cond (Nat.beq pc 49) (some (.bipush 6, 2)) none) (cond (Nat.beq pc 51) (some (.aload 5, 2)) none)) (cond (Nat.ble pc 53) (cond (Nat.beq pc 53) (some (.getfield 154, 3)) none) (cond (Nat.beq pc 56) (some (.isub, 1)) none))) (cond (Nat.ble pc 60) (cond (Nat.ble pc 57) (cond (Nat.beq pc 57) (some (.if_icmp .le 6, 3)) none) (cond (Nat.beq pc 60) (some (.ldc 160, 2)) none)) (cond (Nat.ble pc 62) (cond (Nat.beq pc 62) (some (.ireturn, 1)) none) (cond (Nat.ble pc 63) (cond (Nat.beq pc 63) (some (.aload 4, 2)) none) (cond (Nat.beq pc 65) (some (.invokevirtual 173, 3)) none))))))) (cond (Nat.ble pc 104) (cond (Nat.ble pc 85) (cond (Nat.ble pc 76) (cond (Nat.ble pc 71) (cond (Nat.ble pc 68) (cond (Nat.beq pc 68) (some (.ifCond .ne 11, 3)) none) (cond (Nat.beq pc 71) (some (.aload 5, 2)) none)) (cond (Nat.ble pc 73) (cond (Nat.beq pc 73) (some (.invokevirtual 173, 3)) none) (cond (Nat.beq pc 76) (some (.ifCond .eq 6, 3)) none))) (cond (Nat.ble pc 81) (cond (Nat.ble pc 79) (cond (Nat.beq pc 79) (some (.ldc 177, 2)) none) (cond (Nat.beq pc 81) (some (.ireturn, 1)) none)) (cond (Nat.ble pc 82) (cond (Nat.beq pc 82) (some (.aload 4, 2)) none) (cond (Nat.ble pc 84) (cond (Nat.beq pc 84) (some (.iload_n 3, 1)) none) (cond (Nat.beq pc 85) (some (.invokevirtual 178, 3)) none))))) (cond (Nat.ble pc 93) (cond (Nat.ble pc 90) (cond (Nat.ble pc 88) (cond (Nat.beq pc 88) (some (.istore 6, 2)) none) (cond (Nat.beq pc 90) (some (.aload 4, 2)) none)) (cond (Nat.ble pc 92) (cond (Nat.beq pc 92) (some (.dup, 1)) none) (cond (Nat.beq pc 93) (some (.getfield 151, 3)) none))) (cond (Nat.ble pc 98) (cond (Nat.ble pc 96) (cond (Nat.beq pc 96) (some (.iload 6, 2)) none) (cond (Nat.beq pc 98) (some (.isub, 1)) none)) (cond (Nat.ble pc 99) (cond (Nat.beq pc 99) (some (.putfield 151, 3)) none) (cond (Nat.ble pc 102) (cond (Nat.beq pc 102) (some (.aload 4, 2)) none) (cond (Nat.beq pc 104) (some (.dup, 1)) none)))))) (cond (Nat.ble pc 121) (cond (Nat.ble pc 110) (cond (Nat.ble pc 108) (cond (Nat.ble pc 105) (cond (Nat.beq pc 105) (some (.getfield 154, 3)) none) (cond (Nat.beq pc 108) (some (.iload_n 3, 1)) none)) (cond (Nat.ble pc 109) (cond (Nat.beq pc 109) (some (.isub, 1)) none) (cond (Nat.beq pc 110) (some (.putfield 154, 3)) none))) (cond (Nat.ble pc 115) (cond (Nat.ble pc 113) (cond (Nat.beq pc 113) (some (.aload 5, 2)) none) (cond (Nat.beq pc 115) (some (.dup, 1)) none)) (cond (Nat.ble pc 116) (cond (Nat.beq pc 116) (some (.getfield 151, 3)) none) (cond (Nat.ble pc 119) (cond (Nat.beq pc 119) (some (.iload 6, 2)) none) (cond (Nat.beq pc 121) (some (.iadd, 1)) none))))) (cond (Nat.ble pc 128) (cond (Nat.ble pc 125) (cond (Nat.ble pc 122) (cond (Nat.beq pc 122) (some (.putfield 151, 3)) none) (cond (Nat.beq pc 125) (some (.aload 5, 2)) none)) (cond (Nat.ble pc 127) (cond (Nat.beq pc 127) (some (.dup, 1)) none) (cond (Nat.beq pc 128) (some (.getfield 154, 3)) none))) (cond (Nat.ble pc 132) (cond (Nat.ble pc 131) (cond (Nat.beq pc 131) (some (.iload_n 3, 1)) none) (cond (Nat.beq pc 132) (some (.iadd, 1)) none)) (cond (Nat.ble pc 133) (cond (Nat.beq pc 133) (some (.putfield 154, 3)) none) (cond (Nat.ble pc 136) (cond (Nat.beq pc 136) (some (.iload 6, 2)) none) (cond (Nat.beq pc 138) (some (.ireturn, 1)) none)))))))
def q_gX8_ask (pc : Nat) : Option (Instr × Nat) := cond (Nat.ble pc 46) (cond (Nat.ble pc 17) (cond (Nat.ble pc 6) (cond (Nat.ble pc 1) (cond (Nat.ble pc 0) (cond (Nat.beq pc 0) (some (.aload_n 0, 1)) none) (cond (Nat.beq pc 1) (some (.iload_n 1, 1)) none)) (cond (Nat.ble pc 2) (cond (Nat.beq pc 2) (some (.i2l, 1)) none) (cond (Nat.ble pc 3) (cond (Nat.beq pc 3) (some (.invokevirtual 147, 3)) none) (cond (Nat.beq pc 6) (some (.astore 5, 2)) none)))) (cond (Nat.ble pc 10) (cond (Nat.ble pc 8) (cond (Nat.beq pc 8) (some (.iload_n 2, 1)) none) (cond (Nat.ble pc 9) (cond (Nat.beq pc 9) (some (.iload_n 3, 1)) none) (cond (Nat.beq pc 10) (some (.invokestatic 122, 3)) none))) (cond (Nat.ble pc 13) (cond (Nat.beq pc 13) (some (.istore 6, 2)) none) (cond (Nat.ble pc 15) (cond (Nat.beq pc 15) (some (.aload 5, 2)) none) (cond (Nat.beq pc 17) (some (.ifnull 28, 3)) none))))) (cond (Nat.ble pc 32) (cond (Nat.ble pc 24) (cond (Nat.ble pc 20) (cond (Nat.beq pc 20) (some (.aload_n 0, 1)) none) (cond (Nat.ble pc 21) (cond (Nat.beq pc 21) (some (.getfield 33, 3)) none) (cond (Nat.beq pc 24) (some (.iload 6, 2)) none))) (cond (Nat.ble pc 26) (cond (Nat.beq pc 26) (some (.invokevirtual 126, 3)) none) (cond (Nat.ble pc 29) (cond (Nat.beq pc 29) (some (.ifnull 16, 3)) none) (cond (Nat.beq pc 32) (some (.iload 4, 2)) none)))) (cond (Nat.ble pc 39) (cond (Nat.ble pc 34) (cond (Nat.beq pc 34) (some (.ifCond .lt 11, 3)) none) (cond (Nat.ble pc 37) (cond (Nat.beq pc 37) (some (.iload 4, 2)) none) (cond (Nat.beq pc 39) (some (.sipush 9999, 3)) none))) (cond (Nat.ble pc 42) (cond (Nat.beq pc 42) (some (.if_icmp .le 5, 3)) none) (cond (Nat.ble pc 45) (cond (Nat.beq pc 45) (some (.iconst (-1), 1)) none) (cond (Nat.beq pc 46) (some (.ireturn, 1)) none)))))) (cond (Nat.ble pc 69) (cond (Nat.ble pc 56) (cond (Nat.ble pc 48) (cond (Nat.ble pc 47) (cond (Nat.beq pc 47) (some (.aload_n 0, 1)) none) (cond (Nat.beq pc 48) (some (.getfield 49, 3)) none)) (cond (Nat.ble pc 51) (cond (Nat.beq pc 51) (some (.ifCond .eq 6, 3)) none) (cond (Nat.ble pc 54) (cond (Nat.beq pc 54) (some (.bipush (-2), 2)) none) (cond (Nat.beq pc 56) (some (.ireturn, 1)) none)))) (cond (Nat.ble pc 61) (cond (Nat.ble pc 57) (cond (Nat.beq pc 57) (some (.aload 5, 2)) none) (cond (Nat.ble pc 59) (cond (Nat.beq pc 59) (some (.iload 6, 2)) none) (cond (Nat.beq pc 61) (some (.invokevirtual 181, 3)) none))) (cond (Nat.ble pc 64) (cond (Nat.beq pc 64) (some (.bipush (-4), 2)) none) (cond (Nat.ble pc 66) (cond (Nat.beq pc 66) (some (.if_icmp .ne 13, 3)) none) (cond (Nat.beq pc 69) (some (.aload_n 0, 1)) none))))) (cond (Nat.ble pc 79) (cond (Nat.ble pc 74) (cond (Nat.ble pc 70) (cond (Nat.beq pc 70) (some (.dup, 1)) none) (cond (Nat.ble pc 71) (cond (Nat.beq pc 71) (some (.getfield 46, 3)) none) (cond (Nat.beq pc 74) (some (.iconst 1, 1)) none))) (cond (Nat.ble pc 75) (cond (Nat.beq pc 75) (some (.iadd, 1)) none) (cond (Nat.ble pc 76) (cond (Nat.beq pc 76) (some (.putfield 46, 3)) none) (cond (Nat.beq pc 79) (some (.aload 5, 2)) none)))) (cond (Nat.ble pc 85) (cond (Nat.ble pc 81) (cond (Nat.beq pc 81) (some (.iload 6, 2)) none) (cond (Nat.ble pc 83) (cond (Nat.beq pc 83) (some (.iload 4, 2)) none) (cond (Nat.beq pc 85) (some (.invokevirtual 184, 3)) none))) (cond (Nat.ble pc 88) (cond (Nat.beq pc 88) (some (.aload_n 0, 1)) none) (cond (Nat.ble pc 89) (cond (Nat.beq pc 89) (some (.getfield 46, 3)) none) (cond (Nat.beq pc 92) (some (.ireturn, 1)) none))))))
def q_gX8_let (pc : Nat) : Option (Instr × Nat) := cond (Nat.ble pc 20) (cond (Nat.ble pc 11) (cond (Nat.ble pc 4) (cond (Nat.ble pc 0) (cond (Nat.beq pc 0) (some (.aload_n 0, 1)) none) (cond (Nat.ble pc 1) (cond (Nat.beq pc 1) (some (.getfield 49, 3)) none) (cond (Nat.beq pc 4) (some (.ifCond .eq 6, 3)) none))) (cond (Nat.ble pc 9) (cond (Nat.ble pc 7) (cond (Nat.beq pc 7) (some (.bipush (-2), 2)) none) (cond (Nat.beq pc 9) (some (.ireturn, 1)) none)) (cond (Nat.ble pc 10) (cond (Nat.beq pc 10) (some (.aload_n 0, 1)) none) (cond (Nat.beq pc 11) (some (.iconst 1, 1)) none)))) (cond (Nat.ble pc 16) (cond (Nat.ble pc 12) (cond (Nat.beq pc 12) (some (.putfield 49, 3)) none) (cond (Nat.ble pc 15) (cond (Nat.beq pc 15) (some (.iconst 0, 1)) none) (cond (Nat.beq pc 16) (some (.istore_n 1, 1)) none))) (cond (Nat.ble pc 18) (cond (Nat.ble pc 17) (cond (Nat.beq pc 17) (some (.iconst 0, 1)) none) (cond (Nat.beq pc 18) (some (.istore_n 2, 1)) none)) (cond (Nat.ble pc 19) (cond (Nat.beq pc 19) (some (.iload_n 2, 1)) none) (cond (Nat.beq pc 20) (some (.bipush 30, 2)) none))))) (cond (Nat.ble pc 36) (cond (Nat.ble pc 26) (cond (Nat.ble pc 22) (cond (Nat.beq pc 22) (some (.if_icmp .ge 31, 3)) none) (cond (Nat.ble pc 25) (cond (Nat.beq pc 25) (some (.aload_n 0, 1)) none) (cond (Nat.beq pc 26) (some (.getfield 33, 3)) none))) (cond (Nat.ble pc 30) (cond (Nat.ble pc 29) (cond (Nat.beq pc 29) (some (.iload_n 2, 1)) none) (cond (Nat.beq pc 30) (some (.invokevirtual 141, 3)) none)) (cond (Nat.ble pc 33) (cond (Nat.beq pc 33) (some (.ifCond .eq 14, 3)) none) (cond (Nat.beq pc 36) (some (.aload_n 0, 1)) none)))) (cond (Nat.ble pc 44) (cond (Nat.ble pc 38) (cond (Nat.ble pc 37) (cond (Nat.beq pc 37) (some (.iload_n 2, 1)) none) (cond (Nat.beq pc 38) (some (.invokevirtual 188, 3)) none)) (cond (Nat.ble pc 41) (cond (Nat.beq pc 41) (some (.ifCond .eq 6, 3)) none) (cond (Nat.beq pc 44) (some (.iinc 1 1, 3)) none))) (cond (Nat.ble pc 50) (cond (Nat.ble pc 47) (cond (Nat.beq pc 47) (some (.iinc 2 1, 3)) none) (cond (Nat.beq pc 50) (some (.goto (-31), 3)) none)) (cond (Nat.ble pc 53) (cond (Nat.beq pc 53) (some (.iload_n 1, 1)) none) (cond (Nat.beq pc 54) (some (.ireturn, 1)) none)))))
def q_gX8_month (pc : Nat) : Option (Instr × Nat) := cond (Nat.ble pc 32) (cond (Nat.ble pc 14) (cond (Nat.ble pc 9) (cond (Nat.ble pc 1) (cond (Nat.ble pc 0) (cond (Nat.beq pc 0) (some (.aload_n 0, 1)) none) (cond (Nat.beq pc 1) (some (.getfield 49, 3)) none)) (cond (Nat.ble pc 4) (cond (Nat.beq pc 4) (some (.ifCond .ne 6, 3)) none) (cond (Nat.ble pc 7) (cond (Nat.beq pc 7) (some (.bipush (-2), 2)) none) (cond (Nat.beq pc 9) (some (.ireturn, 1)) none)))) (cond (Nat.ble pc 11) (cond (Nat.ble pc 10) (cond (Nat.beq pc 10) (some (.iconst 0, 1)) none) (cond (Nat.beq pc 11) (some (.istore_n 1, 1)) none)) (cond (Nat.ble pc 12) (cond (Nat.beq pc 12) (some (.iload_n 1, 1)) none) (cond (Nat.ble pc 13) (cond (Nat.beq pc 13) (some (.aload_n 0, 1)) none) (cond (Nat.beq pc 14) (some (.getfield 43, 3)) none))))) (cond (Nat.ble pc 23) (cond (Nat.ble pc 20) (cond (Nat.ble pc 17) (cond (Nat.beq pc 17) (some (.if_icmp .ge 24, 3)) none) (cond (Nat.beq pc 20) (some (.aload_n 0, 1)) none)) (cond (Nat.ble pc 21) (cond (Nat.beq pc 21) (some (.iload_n 1, 1)) none) (cond (Nat.ble pc 22) (cond (Nat.beq pc 22) (some (.i2l, 1)) none) (cond (Nat.beq pc 23) (some (.invokevirtual 147, 3)) none)))) (cond (Nat.ble pc 27) (cond (Nat.ble pc 26) (cond (Nat.beq pc 26) (some (.astore_n 2, 1)) none) (cond (Nat.beq pc 27) (some (.aload_n 2, 1)) none)) (cond (Nat.ble pc 28) (cond (Nat.beq pc 28) (some (.ifnull 7, 3)) none) (cond (Nat.ble pc 31) (cond (Nat.beq pc 31) (some (.aload_n 2, 1)) none) (cond (Nat.beq pc 32) (some (.invokevirtual 191, 3)) none)))))) (cond (Nat.ble pc 54) (cond (Nat.ble pc 45) (cond (Nat.ble pc 38) (cond (Nat.ble pc 35) (cond (Nat.beq pc 35) (some (.iinc 1 1, 3)) none) (cond (Nat.beq pc 38) (some (.goto (-26), 3)) none)) (cond (Nat.ble pc 41) (cond (Nat.beq pc 41) (some (.aload_n 0, 1)) none) (cond (Nat.ble pc 42) (cond (Nat.beq pc 42) (some (.getfield 33, 3)) none) (cond (Nat.beq pc 45) (some (.invokevirtual 194, 3)) none)))) (cond (Nat.ble pc 49) (cond (Nat.ble pc 48) (cond (Nat.beq pc 48) (some (.aload_n 0, 1)) none) (cond (Nat.beq pc 49) (some (.iconst 0, 1)) none)) (cond (Nat.ble pc 50) (cond (Nat.beq pc 50) (some (.putfield 46, 3)) none) (cond (Nat.ble pc 53) (cond (Nat.beq pc 53) (some (.aload_n 0, 1)) none) (cond (Nat.beq pc 54) (some (.iconst 0, 1)) none))))) (cond (Nat.ble pc 63) (cond (Nat.ble pc 58) (cond (Nat.ble pc 55) (cond (Nat.beq pc 55) (some (.putfield 49, 3)) none) (cond (Nat.beq pc 58) (some (.aload_n 0, 1)) none)) (cond (Nat.ble pc 59) (cond (Nat.beq pc 59) (some (.dup, 1)) none) (cond (Nat.ble pc 60) (cond (Nat.beq pc 60) (some (.getfield 53, 3)) none) (cond (Nat.beq pc 63) (some (.iconst 1, 1)) none)))) (cond (Nat.ble pc 65) (cond (Nat.ble pc 64) (cond (Nat.beq pc 64) (some (.iadd, 1)) none) (cond (Nat.beq pc 65) (some (.putfield 53, 3)) none)) (cond (Nat.ble pc 68) (cond (Nat.beq pc 68) (some (.aload_n 0, 1)) none) (cond (Nat.ble pc 69) (cond (Nat.beq pc 69) (some (.getfield 53, 3)) none) (cond (Nat.beq pc 72) (some (.ireturn, 1)) none))))))
def q_gX8_size (pc : Nat) : Option (Instr × Nat) := cond (Nat.ble pc 9) (cond (Nat.ble pc 2) (cond (Nat.ble pc 0) (cond (Nat.beq pc 0) (some (.iload_n 1, 1)) none) (cond (Nat.ble pc 1) (cond (Nat.beq pc 1) (some (.iload_n 2, 1)) none) (cond (Nat.beq pc 2) (some (.invokestatic 197, 3)) none))) (cond (Nat.ble pc 5) (cond (Nat.beq pc 5) (some (.ifCond .ne 5, 3)) none) (cond (Nat.ble pc 8) (cond (Nat.beq pc 8) (some (.iconst (-1), 1)) none) (cond (Nat.beq pc 9) (some (.ireturn, 1)) none)))) (cond (Nat.ble pc 14) (cond (Nat.ble pc 10) (cond (Nat.beq pc 10) (some (.aload_n 0, 1)) none) (cond (Nat.ble pc 11) (cond (Nat.beq pc 11) (some (.getfield 59, 3)) none) (cond (Nat.beq pc 14) (some (.iload_n 1, 1)) none))) (cond (Nat.ble pc 15) (cond (Nat.beq pc 15) (some (.iload_n 2, 1)) none) (cond (Nat.ble pc 16) (cond (Nat.beq pc 16) (some (.invokevirtual 201, 3)) none) (cond (Nat.beq pc 19) (some (.ireturn, 1)) none))))
def q_gX8_most (pc : Nat) : Option (Instr × Nat) := cond (Nat.ble pc 9) (cond (Nat.ble pc 2) (cond (Nat.ble pc 0) (cond (Nat.beq pc 0) (some (.iload_n 1, 1)) none) (cond (Nat.ble pc 1) (cond (Nat.beq pc 1) (some (.i2l, 1)) none) (cond (Nat.beq pc 2) (some (.lload_n 2, 1)) none))) (cond (Nat.ble pc 3) (cond (Nat.beq pc 3) (some (.invokestatic 204, 3)) none) (cond (Nat.ble pc 6) (cond (Nat.beq pc 6) (some (.ifCond .eq 15, 3)) none) (cond (Nat.beq pc 9) (some (.aload_n 0, 1)) none)))) (cond (Nat.ble pc 14) (cond (Nat.ble pc 10) (cond (Nat.beq pc 10) (some (.getfield 59, 3)) none) (cond (Nat.ble pc 13) (cond (Nat.beq pc 13) (some (.iload_n 1, 1)) none) (cond (Nat.beq pc 14) (some (.lload_n 2, 1)) none))) (cond (Nat.ble pc 18) (cond (Nat.ble pc 15) (cond (Nat.beq pc 15) (some (.invokevirtual 208, 3)) none) (cond (Nat.beq pc 18) (some (.goto 4, 3)) none)) (cond (Nat.ble pc 21) (cond (Nat.beq pc 21) (some (.iconst (-1), 1)) none) (cond (Nat.beq pc 22) (some (.ireturn, 1)) none))))
def q_gX8_split (pc : Nat) : Option (Instr × Nat) := cond (Nat.ble pc 15) (cond (Nat.ble pc 6) (cond (Nat.ble pc 2) (cond (Nat.ble pc 0) (cond (Nat.beq pc 0) (some (.iload 4, 2)) none) (cond (Nat.beq pc 2) (some (.ifCond .lt 12, 3)) none)) (cond (Nat.ble pc 5) (cond (Nat.beq pc 5) (some (.iload_n 1, 1)) none) (cond (Nat.beq pc 6) (some (.i2l, 1)) none))) (cond (Nat.ble pc 8) (cond (Nat.ble pc 7) (cond (Nat.beq pc 7) (some (.lload_n 2, 1)) none) (cond (Nat.beq pc 8) (some (.invokestatic 204, 3)) none)) (cond (Nat.ble pc 11) (cond (Nat.beq pc 11) (some (.ifCond .ne 5, 3)) none) (cond (Nat.ble pc 14) (cond (Nat.beq pc 14) (some (.iconst (-1), 1)) none) (cond (Nat.beq pc 15) (some (.ireturn, 1)) none))))) (cond (Nat.ble pc 22) (cond (Nat.ble pc 17) (cond (Nat.ble pc 16) (cond (Nat.beq pc 16) (some (.aload_n 0, 1)) none) (cond (Nat.beq pc 17) (some (.getfield 59, 3)) none)) (cond (Nat.ble pc 20) (cond (Nat.beq pc 20) (some (.iload_n 1, 1)) none) (cond (Nat.ble pc 21) (cond (Nat.beq pc 21) (some (.lload_n 2, 1)) none) (cond (Nat.beq pc 22) (some (.invokevirtual 212, 3)) none)))) (cond (Nat.ble pc 26) (cond (Nat.ble pc 25) (cond (Nat.beq pc 25) (some (.aload_n 0, 1)) none) (cond (Nat.beq pc 26) (some (.getfield 59, 3)) none)) (cond (Nat.ble pc 29) (cond (Nat.beq pc 29) (some (.iload 4, 2)) none) (cond (Nat.ble pc 31) (cond (Nat.beq pc 31) (some (.invokevirtual 216, 3)) none) (cond (Nat.beq pc 34) (some (.ireturn, 1)) none)))))
def q_gX8_work (pc : Nat) : Option (Instr × Nat) := cond (Nat.ble pc 24) (cond (Nat.ble pc 10) (cond (Nat.ble pc 2) (cond (Nat.ble pc 0) (cond (Nat.beq pc 0) (some (.aload_n 0, 1)) none) (cond (Nat.ble pc 1) (cond (Nat.beq pc 1) (some (.iload_n 1, 1)) none) (cond (Nat.beq pc 2) (some (.i2l, 1)) none))) (cond (Nat.ble pc 6) (cond (Nat.ble pc 3) (cond (Nat.beq pc 3) (some (.invokevirtual 147, 3)) none) (cond (Nat.beq pc 6) (some (.astore 5, 2)) none)) (cond (Nat.ble pc 8) (cond (Nat.beq pc 8) (some (.aload 5, 2)) none) (cond (Nat.beq pc 10) (some (.ifnull 12, 3)) none)))) (cond (Nat.ble pc 15) (cond (Nat.ble pc 13) (cond (Nat.beq pc 13) (some (.iload_n 2, 1)) none) (cond (Nat.ble pc 14) (cond (Nat.beq pc 14) (some (.i2l, 1)) none) (cond (Nat.beq pc 15) (some (.lload_n 3, 1)) none))) (cond (Nat.ble pc 19) (cond (Nat.ble pc 16) (cond (Nat.beq pc 16) (some (.invokestatic 204, 3)) none) (cond (Nat.beq pc 19) (some (.ifCond .ne 6, 3)) none)) (cond (Nat.ble pc 22) (cond (Nat.beq pc 22) (some (.ldc 160, 2)) none) (cond (Nat.beq pc 24) (some (.ireturn, 1)) none))))) (cond (Nat.ble pc 40) (cond (Nat.ble pc 29) (cond (Nat.ble pc 25) (cond (Nat.beq pc 25) (some (.aload_n 0, 1)) none) (cond (Nat.ble pc 26) (cond (Nat.beq pc 26) (some (.getfield 33, 3)) none) (cond (Nat.beq pc 29) (some (.aload 5, 2)) none))) (cond (Nat.ble pc 34) (cond (Nat.ble pc 31) (cond (Nat.beq pc 31) (some (.getfield 164, 3)) none) (cond (Nat.beq pc 34) (some (.invokevirtual 141, 3)) none)) (cond (Nat.ble pc 37) (cond (Nat.beq pc 37) (some (.ifCond .ne 6, 3)) none) (cond (Nat.beq pc 40) (some (.ldc 177, 2)) none)))) (cond (Nat.ble pc 44) (cond (Nat.ble pc 42) (cond (Nat.beq pc 42) (some (.ireturn, 1)) none) (cond (Nat.ble pc 43) (cond (Nat.beq pc 43) (some (.aload_n 0, 1)) none) (cond (Nat.beq pc 44) (some (.aload 5, 2)) none))) (cond (Nat.ble pc 47) (cond (Nat.ble pc 46) (cond (Nat.beq pc 46) (some (.iload_n 2, 1)) none) (cond (Nat.beq pc 47) (some (.lload_n 3, 1)) none)) (cond (Nat.ble pc 48) (cond (Nat.beq pc 48) (some (.invokevirtual 219, 3)) none) (cond (Nat.beq pc 51) (some (.ireturn, 1)) none)))))
def q_gX8_slates (pc : Nat) : Option (Instr × Nat) := cond (Nat.ble pc 11) (cond (Nat.ble pc 4) (cond (Nat.ble pc 0) (cond (Nat.beq pc 0) (some (.aload_n 0, 1)) none) (cond (Nat.ble pc 1) (cond (Nat.beq pc 1) (some (.getfield 59, 3)) none) (cond (Nat.beq pc 4) (some (.iload_n 1, 1)) none))) (cond (Nat.ble pc 5) (cond (Nat.beq pc 5) (some (.invokevirtual 223, 3)) none) (cond (Nat.ble pc 8) (cond (Nat.beq pc 8) (some (.ifCond .eq 14, 3)) none) (cond (Nat.beq pc 11) (some (.aload_n 0, 1)) none)))) (cond (Nat.ble pc 16) (cond (Nat.ble pc 12) (cond (Nat.beq pc 12) (some (.getfield 59, 3)) none) (cond (Nat.ble pc 15) (cond (Nat.beq pc 15) (some (.iload_n 1, 1)) none) (cond (Nat.beq pc 16) (some (.invokevirtual 226, 3)) none))) (cond (Nat.ble pc 19) (cond (Nat.beq pc 19) (some (.goto 4, 3)) none) (cond (Nat.ble pc 22) (cond (Nat.beq pc 22) (some (.iconst (-1), 1)) none) (cond (Nat.beq pc 23) (some (.ireturn, 1)) none))))
def q_gX8_sheet (pc : Nat) : Option (Instr × Nat) := cond (Nat.ble pc 22) (cond (Nat.ble pc 9) (cond (Nat.ble pc 2) (cond (Nat.ble pc 0) (cond (Nat.beq pc 0) (some (.aload_n 0, 1)) none) (cond (Nat.ble pc 1) (cond (Nat.beq pc 1) (some (.iload_n 1, 1)) none) (cond (Nat.beq pc 2) (some (.invokevirtual 229, 3)) none))) (cond (Nat.ble pc 5) (cond (Nat.beq pc 5) (some (.astore 4, 2)) none) (cond (Nat.ble pc 7) (cond (Nat.beq pc 7) (some (.aload 4, 2)) none) (cond (Nat.beq pc 9) (some (.ifnull 16, 3)) none)))) (cond (Nat.ble pc 16) (cond (Nat.ble pc 12) (cond (Nat.beq pc 12) (some (.iload_n 2, 1)) none) (cond (Nat.ble pc 13) (cond (Nat.beq pc 13) (some (.invokestatic 233, 3)) none) (cond (Nat.beq pc 16) (some (.ifCond .eq 9, 3)) none))) (cond (Nat.ble pc 19) (cond (Nat.beq pc 19) (some (.iload_n 3, 1)) none) (cond (Nat.ble pc 20) (cond (Nat.beq pc 20) (some (.bipush 60, 2)) none) (cond (Nat.beq pc 22) (some (.if_icmp .le 5, 3)) none))))) (cond (Nat.ble pc 33) (cond (Nat.ble pc 27) (cond (Nat.ble pc 25) (cond (Nat.beq pc 25) (some (.iconst (-1), 1)) none) (cond (Nat.ble pc 26) (cond (Nat.beq pc 26) (some (.ireturn, 1)) none) (cond (Nat.beq pc 27) (some (.iload_n 3, 1)) none))) (cond (Nat.ble pc 28) (cond (Nat.beq pc 28) (some (.ifCond .ge 6, 3)) none) (cond (Nat.ble pc 31) (cond (Nat.beq pc 31) (some (.bipush (-14), 2)) none) (cond (Nat.beq pc 33) (some (.ireturn, 1)) none)))) (cond (Nat.ble pc 37) (cond (Nat.ble pc 34) (cond (Nat.beq pc 34) (some (.aload 4, 2)) none) (cond (Nat.ble pc 36) (cond (Nat.beq pc 36) (some (.iload_n 2, 1)) none) (cond (Nat.beq pc 37) (some (.iload_n 3, 1)) none))) (cond (Nat.ble pc 38) (cond (Nat.beq pc 38) (some (.invokevirtual 236, 3)) none) (cond (Nat.ble pc 41) (cond (Nat.beq pc 41) (some (.iconst 1, 1)) none) (cond (Nat.beq pc 42) (some (.ireturn, 1)) none)))))
def q_gX8_lay (pc : Nat) : Option (Instr × Nat) := cond (Nat.ble pc 24) (cond (Nat.ble pc 9) (cond (Nat.ble pc 2) (cond (Nat.ble pc 0) (cond (Nat.beq pc 0) (some (.aload_n 0, 1)) none) (cond (Nat.ble pc 1) (cond (Nat.beq pc 1) (some (.iload_n 1, 1)) none) (cond (Nat.beq pc 2) (some (.invokevirtual 229, 3)) none))) (cond (Nat.ble pc 5) (cond (Nat.beq pc 5) (some (.astore 5, 2)) none) (cond (Nat.ble pc 7) (cond (Nat.beq pc 7) (some (.aload 5, 2)) none) (cond (Nat.beq pc 9) (some (.ifnonnull 5, 3)) none)))) (cond (Nat.ble pc 14) (cond (Nat.ble pc 12) (cond (Nat.beq pc 12) (some (.iconst (-1), 1)) none) (cond (Nat.ble pc 13) (cond (Nat.beq pc 13) (some (.ireturn, 1)) none) (cond (Nat.beq pc 14) (some (.aload 5, 2)) none))) (cond (Nat.ble pc 19) (cond (Nat.ble pc 16) (cond (Nat.beq pc 16) (some (.invokevirtual 239, 3)) none) (cond (Nat.beq pc 19) (some (.ifCond .eq 6, 3)) none)) (cond (Nat.ble pc 22) (cond (Nat.beq pc 22) (some (.bipush (-11), 2)) none) (cond (Nat.beq pc 24) (some (.ireturn, 1)) none))))) (cond (Nat.ble pc 35) (cond (Nat.ble pc 28) (cond (Nat.ble pc 25) (cond (Nat.beq pc 25) (some (.aload 5, 2)) none) (cond (Nat.ble pc 27) (cond (Nat.beq pc 27) (some (.iload_n 2, 1)) none) (cond (Nat.beq pc 28) (some (.i2l, 1)) none))) (cond (Nat.ble pc 29) (cond (Nat.beq pc 29) (some (.invokevirtual 242, 3)) none) (cond (Nat.ble pc 32) (cond (Nat.beq pc 32) (some (.ifCond .ne 6, 3)) none) (cond (Nat.beq pc 35) (some (.bipush (-12), 2)) none)))) (cond (Nat.ble pc 40) (cond (Nat.ble pc 37) (cond (Nat.beq pc 37) (some (.ireturn, 1)) none) (cond (Nat.ble pc 38) (cond (Nat.beq pc 38) (some (.aload 5, 2)) none) (cond (Nat.beq pc 40) (some (.iload_n 2, 1)) none))) (cond (Nat.ble pc 42) (cond (Nat.ble pc 41) (cond (Nat.beq pc 41) (some (.lload_n 3, 1)) none) (cond (Nat.beq pc 42) (some (.invokevirtual 245, 3)) none)) (cond (Nat.ble pc 45) (cond (Nat.beq pc 45) (some (.iconst 1, 1)) none) (cond (Nat.beq pc 46) (some (.ireturn, 1)) none)))))
def q_gX8_haul (pc : Nat) : Option (Instr × Nat) := cond (Nat.ble pc 50) (cond (Nat.ble pc 24) (cond (Nat.ble pc 9) (cond (Nat.ble pc 2) (cond (Nat.ble pc 0) (cond (Nat.beq pc 0) (some (.aload_n 0, 1)) none) (cond (Nat.ble pc 1) (cond (Nat.beq pc 1) (some (.iload_n 1, 1)) none) (cond (Nat.beq pc 2) (some (.invokevirtual 229, 3)) none))) (cond (Nat.ble pc 5) (cond (Nat.beq pc 5) (some (.astore 5, 2)) none) (cond (Nat.ble pc 7) (cond (Nat.beq pc 7) (some (.aload 5, 2)) none) (cond (Nat.beq pc 9) (some (.ifnull 22, 3)) none)))) (cond (Nat.ble pc 16) (cond (Nat.ble pc 12) (cond (Nat.beq pc 12) (some (.iload_n 2, 1)) none) (cond (Nat.ble pc 13) (cond (Nat.beq pc 13) (some (.invokestatic 233, 3)) none) (cond (Nat.beq pc 16) (some (.ifCond .eq 15, 3)) none))) (cond (Nat.ble pc 19) (cond (Nat.beq pc 19) (some (.iload 4, 2)) none) (cond (Nat.ble pc 21) (cond (Nat.beq pc 21) (some (.ifCond .lt 10, 3)) none) (cond (Nat.beq pc 24) (some (.iload 4, 2)) none))))) (cond (Nat.ble pc 35) (cond (Nat.ble pc 31) (cond (Nat.ble pc 26) (cond (Nat.beq pc 26) (some (.bipush 20, 2)) none) (cond (Nat.ble pc 28) (cond (Nat.beq pc 28) (some (.if_icmp .le 5, 3)) none) (cond (Nat.beq pc 31) (some (.iconst (-1), 1)) none))) (cond (Nat.ble pc 32) (cond (Nat.beq pc 32) (some (.ireturn, 1)) none) (cond (Nat.ble pc 33) (cond (Nat.beq pc 33) (some (.aload 5, 2)) none) (cond (Nat.beq pc 35) (some (.invokevirtual 239, 3)) none)))) (cond (Nat.ble pc 43) (cond (Nat.ble pc 38) (cond (Nat.beq pc 38) (some (.ifCond .eq 6, 3)) none) (cond (Nat.ble pc 41) (cond (Nat.beq pc 41) (some (.bipush (-11), 2)) none) (cond (Nat.beq pc 43) (some (.ireturn, 1)) none))) (cond (Nat.ble pc 46) (cond (Nat.ble pc 44) (cond (Nat.beq pc 44) (some (.aload 5, 2)) none) (cond (Nat.beq pc 46) (some (.getfield 248, 3)) none)) (cond (Nat.ble pc 49) (cond (Nat.beq pc 49) (some (.iload_n 2, 1)) none) (cond (Nat.beq pc 50) (some (.if_icmp .eq 6, 3)) none)))))) (cond (Nat.ble pc 72) (cond (Nat.ble pc 61) (cond (Nat.ble pc 56) (cond (Nat.ble pc 53) (cond (Nat.beq pc 53) (some (.bipush (-13), 2)) none) (cond (Nat.ble pc 55) (cond (Nat.beq pc 55) (some (.ireturn, 1)) none) (cond (Nat.beq pc 56) (some (.iconst 0, 1)) none))) (cond (Nat.ble pc 57) (cond (Nat.beq pc 57) (some (.istore 6, 2)) none) (cond (Nat.ble pc 59) (cond (Nat.beq pc 59) (some (.iload 6, 2)) none) (cond (Nat.beq pc 61) (some (.iload 4, 2)) none)))) (cond (Nat.ble pc 67) (cond (Nat.ble pc 63) (cond (Nat.beq pc 63) (some (.if_icmp .ge 33, 3)) none) (cond (Nat.ble pc 66) (cond (Nat.beq pc 66) (some (.aload_n 0, 1)) none) (cond (Nat.beq pc 67) (some (.aload 5, 2)) none))) (cond (Nat.ble pc 70) (cond (Nat.ble pc 69) (cond (Nat.beq pc 69) (some (.iload_n 3, 1)) none) (cond (Nat.beq pc 70) (some (.i2l, 1)) none)) (cond (Nat.ble pc 71) (cond (Nat.beq pc 71) (some (.iconst 3, 1)) none) (cond (Nat.beq pc 72) (some (.iload 6, 2)) none))))) (cond (Nat.ble pc 82) (cond (Nat.ble pc 76) (cond (Nat.ble pc 74) (cond (Nat.beq pc 74) (some (.imul, 1)) none) (cond (Nat.ble pc 75) (cond (Nat.beq pc 75) (some (.i2l, 1)) none) (cond (Nat.beq pc 76) (some (.ladd, 1)) none))) (cond (Nat.ble pc 77) (cond (Nat.beq pc 77) (some (.invokevirtual 251, 3)) none) (cond (Nat.ble pc 80) (cond (Nat.beq pc 80) (some (.istore 7, 2)) none) (cond (Nat.beq pc 82) (some (.iload 7, 2)) none)))) (cond (Nat.ble pc 89) (cond (Nat.ble pc 84) (cond (Nat.beq pc 84) (some (.ifCond .eq 6, 3)) none) (cond (Nat.ble pc 87) (cond (Nat.beq pc 87) (some (.iload 7, 2)) none) (cond (Nat.beq pc 89) (some (.ireturn, 1)) none))) (cond (Nat.ble pc 93) (cond (Nat.ble pc 90) (cond (Nat.beq pc 90) (some (.iinc 6 1, 3)) none) (cond (Nat.beq pc 93) (some (.goto (-34), 3)) none)) (cond (Nat.ble pc 96) (cond (Nat.beq pc 96) (some (.iload 4, 2)) none) (cond (Nat.beq pc 98) (some (.ireturn, 1)) none))))))
def q_gX8_count (pc : Nat) : Option (Instr × Nat) := cond (Nat.ble pc 86) (cond (Nat.ble pc 68) (cond (Nat.ble pc 57) (cond (Nat.ble pc 1) (cond (Nat.ble pc 0) (cond (Nat.beq pc 0) (some (.iload_n 1, 1)) none) (cond (Nat.beq pc 1) (some (.tableswitch 117 0 9 #[55, 60, 68, 73, 78, 86, 94, 99, 104, 109], 55)) none)) (cond (Nat.ble pc 56) (cond (Nat.beq pc 56) (some (.aload_n 0, 1)) none) (cond (Nat.beq pc 57) (some (.getfield 43, 3)) none))) (cond (Nat.ble pc 61) (cond (Nat.ble pc 60) (cond (Nat.beq pc 60) (some (.ireturn, 1)) none) (cond (Nat.beq pc 61) (some (.aload_n 0, 1)) none)) (cond (Nat.ble pc 62) (cond (Nat.beq pc 62) (some (.getfield 59, 3)) none) (cond (Nat.ble pc 65) (cond (Nat.beq pc 65) (some (.getfield 255, 3)) none) (cond (Nat.beq pc 68) (some (.ireturn, 1)) none))))) (cond (Nat.ble pc 75) (cond (Nat.ble pc 70) (cond (Nat.ble pc 69) (cond (Nat.beq pc 69) (some (.aload_n 0, 1)) none) (cond (Nat.beq pc 70) (some (.getfield 53, 3)) none)) (cond (Nat.ble pc 73) (cond (Nat.beq pc 73) (some (.ireturn, 1)) none) (cond (Nat.ble pc 74) (cond (Nat.beq pc 74) (some (.aload_n 0, 1)) none) (cond (Nat.beq pc 75) (some (.getfield 46, 3)) none)))) (cond (Nat.ble pc 79) (cond (Nat.ble pc 78) (cond (Nat.beq pc 78) (some (.ireturn, 1)) none) (cond (Nat.beq pc 79) (some (.aload_n 0, 1)) none)) (cond (Nat.ble pc 80) (cond (Nat.beq pc 80) (some (.getfield 33, 3)) none) (cond (Nat.ble pc 83) (cond (Nat.beq pc 83) (some (.invokevirtual 258, 3)) none) (cond (Nat.beq pc 86) (some (.ireturn, 1)) none)))))) (cond (Nat.ble pc 101) (cond (Nat.ble pc 94) (cond (Nat.ble pc 88) (cond (Nat.ble pc 87) (cond (Nat.beq pc 87) (some (.aload_n 0, 1)) none) (cond (Nat.beq pc 88) (some (.getfield 33, 3)) none)) (cond (Nat.ble pc 91) (cond (Nat.beq pc 91) (some (.invokevirtual 262, 3)) none) (cond (Nat.beq pc 94) (some (.ireturn, 1)) none))) (cond (Nat.ble pc 96) (cond (Nat.ble pc 95) (cond (Nat.beq pc 95) (some (.aload_n 0, 1)) none) (cond (Nat.beq pc 96) (some (.getfield 63, 3)) none)) (cond (Nat.ble pc 99) (cond (Nat.beq pc 99) (some (.ireturn, 1)) none) (cond (Nat.ble pc 100) (cond (Nat.beq pc 100) (some (.aload_n 0, 1)) none) (cond (Nat.beq pc 101) (some (.getfield 66, 3)) none))))) (cond (Nat.ble pc 110) (cond (Nat.ble pc 105) (cond (Nat.ble pc 104) (cond (Nat.beq pc 104) (some (.ireturn, 1)) none) (cond (Nat.beq pc 105) (some (.aload_n 0, 1)) none)) (cond (Nat.ble pc 106) (cond (Nat.beq pc 106) (some (.getfield 69, 3)) none) (cond (Nat.ble pc 109) (cond (Nat.beq pc 109) (some (.ireturn, 1)) none) (cond (Nat.beq pc 110) (some (.aload_n 0, 1)) none)))) (cond (Nat.ble pc 114) (cond (Nat.ble pc 111) (cond (Nat.beq pc 111) (some (.getfield 19, 3)) none) (cond (Nat.beq pc 114) (some (.getfield 109, 3)) none)) (cond (Nat.ble pc 117) (cond (Nat.beq pc 117) (some (.ireturn, 1)) none) (cond (Nat.ble pc 118) (cond (Nat.beq pc 118) (some (.iconst (-1), 1)) none) (cond (Nat.beq pc 119) (some (.ireturn, 1)) none))))))
def q_gX8_gangAt (pc : Nat) : Option (Instr × Nat) := cond (Nat.ble pc 16) (cond (Nat.ble pc 6) (cond (Nat.ble pc 1) (cond (Nat.ble pc 0) (cond (Nat.beq pc 0) (some (.lload_n 1, 1)) none) (cond (Nat.beq pc 1) (some (.lconst 0, 1)) none)) (cond (Nat.ble pc 2) (cond (Nat.beq pc 2) (some (.lcmp, 1)) none) (cond (Nat.ble pc 3) (cond (Nat.beq pc 3) (some (.ifCond .lt 21, 3)) none) (cond (Nat.beq pc 6) (some (.lload_n 1, 1)) none)))) (cond (Nat.ble pc 11) (cond (Nat.ble pc 7) (cond (Nat.beq pc 7) (some (.aload_n 0, 1)) none) (cond (Nat.ble pc 8) (cond (Nat.beq pc 8) (some (.getfield 43, 3)) none) (cond (Nat.beq pc 11) (some (.i2l, 1)) none))) (cond (Nat.ble pc 12) (cond (Nat.beq pc 12) (some (.lcmp, 1)) none) (cond (Nat.ble pc 13) (cond (Nat.beq pc 13) (some (.ifCond .ge 11, 3)) none) (cond (Nat.beq pc 16) (some (.lload_n 1, 1)) none))))) (cond (Nat.ble pc 25) (cond (Nat.ble pc 20) (cond (Nat.ble pc 17) (cond (Nat.beq pc 17) (some (.ldc2_w 265, 3)) none) (cond (Nat.beq pc 20) (some (.lcmp, 1)) none)) (cond (Nat.ble pc 21) (cond (Nat.beq pc 21) (some (.ifCond .lt 5, 3)) none) (cond (Nat.ble pc 24) (cond (Nat.beq pc 24) (some (.aconst_null, 1)) none) (cond (Nat.beq pc 25) (some (.areturn, 1)) none)))) (cond (Nat.ble pc 30) (cond (Nat.ble pc 26) (cond (Nat.beq pc 26) (some (.aload_n 0, 1)) none) (cond (Nat.ble pc 27) (cond (Nat.beq pc 27) (some (.getfield 39, 3)) none) (cond (Nat.beq pc 30) (some (.lload_n 1, 1)) none))) (cond (Nat.ble pc 31) (cond (Nat.beq pc 31) (some (.l2i, 1)) none) (cond (Nat.ble pc 32) (cond (Nat.beq pc 32) (some (.aaload, 1)) none) (cond (Nat.beq pc 33) (some (.areturn, 1)) none)))))
def q_gX8_sheetAt (pc : Nat) : Option (Instr × Nat) := cond (Nat.ble pc 9) (cond (Nat.ble pc 4) (cond (Nat.ble pc 0) (cond (Nat.beq pc 0) (some (.iload_n 1, 1)) none) (cond (Nat.ble pc 1) (cond (Nat.beq pc 1) (some (.ifCond .lt 8, 3)) none) (cond (Nat.beq pc 4) (some (.iload_n 1, 1)) none))) (cond (Nat.ble pc 5) (cond (Nat.beq pc 5) (some (.iconst 4, 1)) none) (cond (Nat.ble pc 6) (cond (Nat.beq pc 6) (some (.if_icmp .lt 7, 3)) none) (cond (Nat.beq pc 9) (some (.aconst_null, 1)) none)))) (cond (Nat.ble pc 14) (cond (Nat.ble pc 10) (cond (Nat.beq pc 10) (some (.goto 9, 3)) none) (cond (Nat.ble pc 13) (cond (Nat.beq pc 13) (some (.aload_n 0, 1)) none) (cond (Nat.beq pc 14) (some (.getfield 74, 3)) none))) (cond (Nat.ble pc 17) (cond (Nat.beq pc 17) (some (.iload_n 1, 1)) none) (cond (Nat.ble pc 18) (cond (Nat.beq pc 18) (some (.aaload, 1)) none) (cond (Nat.beq pc 19) (some (.areturn, 1)) none))))
def q_gX8_letToBest (pc : Nat) : Option (Instr × Nat) := cond (Nat.ble pc 43) (cond (Nat.ble pc 17) (cond (Nat.ble pc 6) (cond (Nat.ble pc 3) (cond (Nat.ble pc 0) (cond (Nat.beq pc 0) (some (.bipush (-4), 2)) none) (cond (Nat.ble pc 2) (cond (Nat.beq pc 2) (some (.istore_n 2, 1)) none) (cond (Nat.beq pc 3) (some (.iconst 0, 1)) none))) (cond (Nat.ble pc 4) (cond (Nat.beq pc 4) (some (.istore_n 3, 1)) none) (cond (Nat.ble pc 5) (cond (Nat.beq pc 5) (some (.iload_n 3, 1)) none) (cond (Nat.beq pc 6) (some (.aload_n 0, 1)) none)))) (cond (Nat.ble pc 13) (cond (Nat.ble pc 7) (cond (Nat.beq pc 7) (some (.getfield 43, 3)) none) (cond (Nat.ble pc 10) (cond (Nat.beq pc 10) (some (.if_icmp .ge 44, 3)) none) (cond (Nat.beq pc 13) (some (.aload_n 0, 1)) none))) (cond (Nat.ble pc 15) (cond (Nat.ble pc 14) (cond (Nat.beq pc 14) (some (.aload_n 0, 1)) none) (cond (Nat.beq pc 15) (some (.iload_n 3, 1)) none)) (cond (Nat.ble pc 16) (cond (Nat.beq pc 16) (some (.i2l, 1)) none) (cond (Nat.beq pc 17) (some (.invokevirtual 147, 3)) none))))) (cond (Nat.ble pc 30) (cond (Nat.ble pc 24) (cond (Nat.ble pc 20) (cond (Nat.beq pc 20) (some (.iload_n 1, 1)) none) (cond (Nat.ble pc 21) (cond (Nat.beq pc 21) (some (.invokevirtual 267, 3)) none) (cond (Nat.beq pc 24) (some (.ifCond .eq 24, 3)) none))) (cond (Nat.ble pc 28) (cond (Nat.ble pc 27) (cond (Nat.beq pc 27) (some (.aload_n 0, 1)) none) (cond (Nat.beq pc 28) (some (.iload_n 3, 1)) none)) (cond (Nat.ble pc 29) (cond (Nat.beq pc 29) (some (.i2l, 1)) none) (cond (Nat.beq pc 30) (some (.invokevirtual 147, 3)) none)))) (cond (Nat.ble pc 35) (cond (Nat.ble pc 33) (cond (Nat.beq pc 33) (some (.aload_n 0, 1)) none) (cond (Nat.ble pc 34) (cond (Nat.beq pc 34) (some (.iload_n 2, 1)) none) (cond (Nat.beq pc 35) (some (.i2l, 1)) none))) (cond (Nat.ble pc 39) (cond (Nat.ble pc 36) (cond (Nat.beq pc 36) (some (.invokevirtual 147, 3)) none) (cond (Nat.beq pc 39) (some (.iload_n 1, 1)) none)) (cond (Nat.ble pc 40) (cond (Nat.beq pc 40) (some (.invokestatic 271, 3)) none) (cond (Nat.beq pc 43) (some (.ifCond .eq 5, 3)) none)))))) (cond (Nat.ble pc 69) (cond (Nat.ble pc 56) (cond (Nat.ble pc 48) (cond (Nat.ble pc 46) (cond (Nat.beq pc 46) (some (.iload_n 3, 1)) none) (cond (Nat.ble pc 47) (cond (Nat.beq pc 47) (some (.istore_n 2, 1)) none) (cond (Nat.beq pc 48) (some (.iinc 3 1, 3)) none))) (cond (Nat.ble pc 54) (cond (Nat.ble pc 51) (cond (Nat.beq pc 51) (some (.goto (-46), 3)) none) (cond (Nat.beq pc 54) (some (.aload_n 0, 1)) none)) (cond (Nat.ble pc 55) (cond (Nat.beq pc 55) (some (.iload_n 2, 1)) none) (cond (Nat.beq pc 56) (some (.i2l, 1)) none)))) (cond (Nat.ble pc 61) (cond (Nat.ble pc 57) (cond (Nat.beq pc 57) (some (.invokevirtual 147, 3)) none) (cond (Nat.ble pc 60) (cond (Nat.beq pc 60) (some (.astore_n 3, 1)) none) (cond (Nat.beq pc 61) (some (.aload_n 0, 1)) none))) (cond (Nat.ble pc 65) (cond (Nat.ble pc 62) (cond (Nat.beq pc 62) (some (.getfield 33, 3)) none) (cond (Nat.beq pc 65) (some (.iload_n 1, 1)) none)) (cond (Nat.ble pc 66) (cond (Nat.beq pc 66) (some (.invokevirtual 126, 3)) none) (cond (Nat.beq pc 69) (some (.astore 4, 2)) none))))) (cond (Nat.ble pc 82) (cond (Nat.ble pc 75) (cond (Nat.ble pc 71) (cond (Nat.beq pc 71) (some (.aload_n 3, 1)) none) (cond (Nat.ble pc 72) (cond (Nat.beq pc 72) (some (.ifnull 8, 3)) none) (cond (Nat.beq pc 75) (some (.aload 4, 2)) none))) (cond (Nat.ble pc 80) (cond (Nat.ble pc 77) (cond (Nat.beq pc 77) (some (.ifnonnull 5, 3)) none) (cond (Nat.beq pc 80) (some (.iconst 0, 1)) none)) (cond (Nat.ble pc 81) (cond (Nat.beq pc 81) (some (.ireturn, 1)) none) (cond (Nat.beq pc 82) (some (.aload_n 3, 1)) none)))) (cond (Nat.ble pc 87) (cond (Nat.ble pc 83) (cond (Nat.beq pc 83) (some (.iload_n 1, 1)) none) (cond (Nat.ble pc 84) (cond (Nat.beq pc 84) (some (.invokevirtual 275, 3)) none) (cond (Nat.beq pc 87) (some (.aload 4, 2)) none))) (cond (Nat.ble pc 90) (cond (Nat.ble pc 89) (cond (Nat.beq pc 89) (some (.iload_n 2, 1)) none) (cond (Nat.beq pc 90) (some (.putfield 144, 3)) none)) (cond (Nat.ble pc 93) (cond (Nat.beq pc 93) (some (.iconst 1, 1)) none) (cond (Nat.beq pc 94) (some (.ireturn, 1)) none))))))
def q_gX8_mayTake (pc : Nat) : Option (Instr × Nat) := cond (Nat.ble pc 18) (cond (Nat.ble pc 8) (cond (Nat.ble pc 1) (cond (Nat.ble pc 0) (cond (Nat.beq pc 0) (some (.aload_n 1, 1)) none) (cond (Nat.beq pc 1) (some (.ifnull 39, 3)) none)) (cond (Nat.ble pc 4) (cond (Nat.beq pc 4) (some (.aload_n 1, 1)) none) (cond (Nat.ble pc 5) (cond (Nat.beq pc 5) (some (.invokevirtual 173, 3)) none) (cond (Nat.beq pc 8) (some (.ifCond .ne 32, 3)) none)))) (cond (Nat.ble pc 12) (cond (Nat.ble pc 11) (cond (Nat.beq pc 11) (some (.aload_n 1, 1)) none) (cond (Nat.beq pc 12) (some (.iload_n 2, 1)) none)) (cond (Nat.ble pc 13) (cond (Nat.beq pc 13) (some (.invokevirtual 181, 3)) none) (cond (Nat.ble pc 16) (cond (Nat.beq pc 16) (some (.bipush (-4), 2)) none) (cond (Nat.beq pc 18) (some (.if_icmp .eq 22, 3)) none))))) (cond (Nat.ble pc 27) (cond (Nat.ble pc 22) (cond (Nat.ble pc 21) (cond (Nat.beq pc 21) (some (.aload_n 0, 1)) none) (cond (Nat.beq pc 22) (some (.getfield 19, 3)) none)) (cond (Nat.ble pc 25) (cond (Nat.beq pc 25) (some (.aload_n 1, 1)) none) (cond (Nat.ble pc 26) (cond (Nat.beq pc 26) (some (.iload_n 2, 1)) none) (cond (Nat.beq pc 27) (some (.invokevirtual 181, 3)) none)))) (cond (Nat.ble pc 36) (cond (Nat.ble pc 30) (cond (Nat.beq pc 30) (some (.invokevirtual 278, 3)) none) (cond (Nat.ble pc 33) (cond (Nat.beq pc 33) (some (.ifCond .eq 7, 3)) none) (cond (Nat.beq pc 36) (some (.iconst 1, 1)) none))) (cond (Nat.ble pc 37) (cond (Nat.beq pc 37) (some (.goto 4, 3)) none) (cond (Nat.ble pc 40) (cond (Nat.beq pc 40) (some (.iconst 0, 1)) none) (cond (Nat.beq pc 41) (some (.ireturn, 1)) none)))))
def q_gX8_isBetter (pc : Nat) : Option (Instr × Nat) := cond (Nat.ble pc 24) (cond (Nat.ble pc 12) (cond (Nat.ble pc 4) (cond (Nat.ble pc 0) (cond (Nat.beq pc 0) (some (.aload_n 0, 1)) none) (cond (Nat.ble pc 1) (cond (Nat.beq pc 1) (some (.ifnull 7, 3)) none) (cond (Nat.beq pc 4) (some (.aload_n 1, 1)) none))) (cond (Nat.ble pc 8) (cond (Nat.ble pc 5) (cond (Nat.beq pc 5) (some (.ifnonnull 13, 3)) none) (cond (Nat.beq pc 8) (some (.aload_n 0, 1)) none)) (cond (Nat.ble pc 9) (cond (Nat.beq pc 9) (some (.ifnull 7, 3)) none) (cond (Nat.beq pc 12) (some (.iconst 1, 1)) none)))) (cond (Nat.ble pc 18) (cond (Nat.ble pc 16) (cond (Nat.ble pc 13) (cond (Nat.beq pc 13) (some (.goto 4, 3)) none) (cond (Nat.beq pc 16) (some (.iconst 0, 1)) none)) (cond (Nat.ble pc 17) (cond (Nat.beq pc 17) (some (.ireturn, 1)) none) (cond (Nat.beq pc 18) (some (.aload_n 0, 1)) none))) (cond (Nat.ble pc 20) (cond (Nat.ble pc 19) (cond (Nat.beq pc 19) (some (.iload_n 2, 1)) none) (cond (Nat.beq pc 20) (some (.invokevirtual 181, 3)) none)) (cond (Nat.ble pc 23) (cond (Nat.beq pc 23) (some (.aload_n 1, 1)) none) (cond (Nat.beq pc 24) (some (.iload_n 2, 1)) none))))) (cond (Nat.ble pc 40) (cond (Nat.ble pc 32) (cond (Nat.ble pc 28) (cond (Nat.ble pc 25) (cond (Nat.beq pc 25) (some (.invokevirtual 181, 3)) none) (cond (Nat.beq pc 28) (some (.invokestatic 281, 3)) none)) (cond (Nat.ble pc 31) (cond (Nat.beq pc 31) (some (.istore_n 3, 1)) none) (cond (Nat.beq pc 32) (some (.iload_n 3, 1)) none))) (cond (Nat.ble pc 36) (cond (Nat.ble pc 33) (cond (Nat.beq pc 33) (some (.ifCond .lt 18, 3)) none) (cond (Nat.beq pc 36) (some (.iload_n 3, 1)) none)) (cond (Nat.ble pc 37) (cond (Nat.beq pc 37) (some (.ifCond .ne 18, 3)) none) (cond (Nat.beq pc 40) (some (.aload_n 0, 1)) none)))) (cond (Nat.ble pc 48) (cond (Nat.ble pc 44) (cond (Nat.ble pc 41) (cond (Nat.beq pc 41) (some (.getfield 161, 3)) none) (cond (Nat.beq pc 44) (some (.aload_n 1, 1)) none)) (cond (Nat.ble pc 45) (cond (Nat.beq pc 45) (some (.getfield 161, 3)) none) (cond (Nat.beq pc 48) (some (.if_icmp .ge 7, 3)) none))) (cond (Nat.ble pc 52) (cond (Nat.ble pc 51) (cond (Nat.beq pc 51) (some (.iconst 1, 1)) none) (cond (Nat.beq pc 52) (some (.goto 4, 3)) none)) (cond (Nat.ble pc 55) (cond (Nat.beq pc 55) (some (.iconst 0, 1)) none) (cond (Nat.beq pc 56) (some (.ireturn, 1)) none)))))
def q_gX8_workBlock (pc : Nat) : Option (Instr × Nat) := cond (Nat.ble pc 90) (cond (Nat.ble pc 43) (cond (Nat.ble pc 21) (cond (Nat.ble pc 8) (cond (Nat.ble pc 1) (cond (Nat.ble pc 0) (cond (Nat.beq pc 0) (some (.aload_n 0, 1)) none) (cond (Nat.beq pc 1) (some (.getfield 33, 3)) none)) (cond (Nat.ble pc 4) (cond (Nat.beq pc 4) (some (.aload_n 1, 1)) none) (cond (Nat.ble pc 5) (cond (Nat.beq pc 5) (some (.getfield 164, 3)) none) (cond (Nat.beq pc 8) (some (.invokevirtual 126, 3)) none)))) (cond (Nat.ble pc 15) (cond (Nat.ble pc 11) (cond (Nat.beq pc 11) (some (.astore 5, 2)) none) (cond (Nat.ble pc 13) (cond (Nat.beq pc 13) (some (.aload 5, 2)) none) (cond (Nat.beq pc 15) (some (.ifnonnull 6, 3)) none))) (cond (Nat.ble pc 18) (cond (Nat.beq pc 18) (some (.ldc 177, 2)) none) (cond (Nat.ble pc 20) (cond (Nat.beq pc 20) (some (.ireturn, 1)) none) (cond (Nat.beq pc 21) (some (.aload_n 0, 1)) none))))) (cond (Nat.ble pc 31) (cond (Nat.ble pc 26) (cond (Nat.ble pc 22) (cond (Nat.beq pc 22) (some (.getfield 59, 3)) none) (cond (Nat.ble pc 25) (cond (Nat.beq pc 25) (some (.iload_n 2, 1)) none) (cond (Nat.beq pc 26) (some (.lload_n 3, 1)) none))) (cond (Nat.ble pc 27) (cond (Nat.beq pc 27) (some (.invokevirtual 212, 3)) none) (cond (Nat.ble pc 30) (cond (Nat.beq pc 30) (some (.aload_n 0, 1)) none) (cond (Nat.beq pc 31) (some (.getfield 59, 3)) none)))) (cond (Nat.ble pc 38) (cond (Nat.ble pc 34) (cond (Nat.beq pc 34) (some (.invokevirtual 286, 3)) none) (cond (Nat.ble pc 37) (cond (Nat.beq pc 37) (some (.aload_n 0, 1)) none) (cond (Nat.beq pc 38) (some (.dup, 1)) none))) (cond (Nat.ble pc 39) (cond (Nat.beq pc 39) (some (.getfield 69, 3)) none) (cond (Nat.ble pc 42) (cond (Nat.beq pc 42) (some (.aload_n 0, 1)) none) (cond (Nat.beq pc 43) (some (.getfield 59, 3)) none)))))) (cond (Nat.ble pc 66) (cond (Nat.ble pc 55) (cond (Nat.ble pc 50) (cond (Nat.ble pc 46) (cond (Nat.beq pc 46) (some (.getfield 289, 3)) none) (cond (Nat.ble pc 49) (cond (Nat.beq pc 49) (some (.iadd, 1)) none) (cond (Nat.beq pc 50) (some (.putfield 69, 3)) none))) (cond (Nat.ble pc 53) (cond (Nat.beq pc 53) (some (.aload_n 0, 1)) none) (cond (Nat.ble pc 54) (cond (Nat.beq pc 54) (some (.dup, 1)) none) (cond (Nat.beq pc 55) (some (.getfield 66, 3)) none)))) (cond (Nat.ble pc 60) (cond (Nat.ble pc 58) (cond (Nat.beq pc 58) (some (.iconst 1, 1)) none) (cond (Nat.ble pc 59) (cond (Nat.beq pc 59) (some (.iadd, 1)) none) (cond (Nat.beq pc 60) (some (.putfield 66, 3)) none))) (cond (Nat.ble pc 63) (cond (Nat.beq pc 63) (some (.aload 5, 2)) none) (cond (Nat.ble pc 65) (cond (Nat.beq pc 65) (some (.dup, 1)) none) (cond (Nat.beq pc 66) (some (.getfield 135, 3)) none))))) (cond (Nat.ble pc 78) (cond (Nat.ble pc 71) (cond (Nat.ble pc 69) (cond (Nat.beq pc 69) (some (.iconst 1, 1)) none) (cond (Nat.ble pc 70) (cond (Nat.beq pc 70) (some (.iadd, 1)) none) (cond (Nat.beq pc 71) (some (.putfield 135, 3)) none))) (cond (Nat.ble pc 74) (cond (Nat.beq pc 74) (some (.aload_n 0, 1)) none) (cond (Nat.ble pc 75) (cond (Nat.beq pc 75) (some (.getfield 33, 3)) none) (cond (Nat.beq pc 78) (some (.aload_n 1, 1)) none)))) (cond (Nat.ble pc 83) (cond (Nat.ble pc 79) (cond (Nat.beq pc 79) (some (.getfield 164, 3)) none) (cond (Nat.ble pc 82) (cond (Nat.beq pc 82) (some (.aload_n 0, 1)) none) (cond (Nat.beq pc 83) (some (.getfield 19, 3)) none))) (cond (Nat.ble pc 86) (cond (Nat.beq pc 86) (some (.iconst 1, 1)) none) (cond (Nat.ble pc 87) (cond (Nat.beq pc 87) (some (.invokevirtual 112, 3)) none) (cond (Nat.beq pc 90) (some (.invokevirtual 292, 3)) none))))))) (cond (Nat.ble pc 136) (cond (Nat.ble pc 115) (cond (Nat.ble pc 102) (cond (Nat.ble pc 94) (cond (Nat.ble pc 93) (cond (Nat.beq pc 93) (some (.aload_n 0, 1)) none) (cond (Nat.beq pc 94) (some (.getfield 59, 3)) none)) (cond (Nat.ble pc 97) (cond (Nat.beq pc 97) (some (.getfield 295, 3)) none) (cond (Nat.ble pc 100) (cond (Nat.beq pc 100) (some (.istore 6, 2)) none) (cond (Nat.beq pc 102) (some (.iload 6, 2)) none)))) (cond (Nat.ble pc 107) (cond (Nat.ble pc 104) (cond (Nat.beq pc 104) (some (.iload 6, 2)) none) (cond (Nat.ble pc 106) (cond (Nat.beq pc 106) (some (.aload_n 0, 1)) none) (cond (Nat.beq pc 107) (some (.getfield 19, 3)) none))) (cond (Nat.ble pc 110) (cond (Nat.beq pc 110) (some (.aload 5, 2)) none) (cond (Nat.ble pc 112) (cond (Nat.beq pc 112) (some (.getfield 130, 3)) none) (cond (Nat.beq pc 115) (some (.invokevirtual 119, 3)) none))))) (cond (Nat.ble pc 124) (cond (Nat.ble pc 121) (cond (Nat.ble pc 118) (cond (Nat.beq pc 118) (some (.imul, 1)) none) (cond (Nat.ble pc 119) (cond (Nat.beq pc 119) (some (.bipush 100, 2)) none) (cond (Nat.beq pc 121) (some (.idiv, 1)) none))) (cond (Nat.ble pc 122) (cond (Nat.beq pc 122) (some (.iadd, 1)) none) (cond (Nat.ble pc 123) (cond (Nat.beq pc 123) (some (.aload_n 1, 1)) none) (cond (Nat.beq pc 124) (some (.getfield 167, 3)) none)))) (cond (Nat.ble pc 130) (cond (Nat.ble pc 127) (cond (Nat.beq pc 127) (some (.iadd, 1)) none) (cond (Nat.ble pc 128) (cond (Nat.beq pc 128) (some (.istore 7, 2)) none) (cond (Nat.beq pc 130) (some (.iload 7, 2)) none))) (cond (Nat.ble pc 132) (cond (Nat.beq pc 132) (some (.aload_n 0, 1)) none) (cond (Nat.ble pc 133) (cond (Nat.beq pc 133) (some (.getfield 19, 3)) none) (cond (Nat.beq pc 136) (some (.iconst 3, 1)) none)))))) (cond (Nat.ble pc 157) (cond (Nat.ble pc 146) (cond (Nat.ble pc 141) (cond (Nat.ble pc 137) (cond (Nat.beq pc 137) (some (.invokevirtual 112, 3)) none) (cond (Nat.ble pc 140) (cond (Nat.beq pc 140) (some (.imul, 1)) none) (cond (Nat.beq pc 141) (some (.bipush 100, 2)) none))) (cond (Nat.ble pc 143) (cond (Nat.beq pc 143) (some (.idiv, 1)) none) (cond (Nat.ble pc 144) (cond (Nat.beq pc 144) (some (.istore 8, 2)) none) (cond (Nat.beq pc 146) (some (.aload_n 0, 1)) none)))) (cond (Nat.ble pc 151) (cond (Nat.ble pc 147) (cond (Nat.beq pc 147) (some (.dup, 1)) none) (cond (Nat.ble pc 148) (cond (Nat.beq pc 148) (some (.getfield 63, 3)) none) (cond (Nat.beq pc 151) (some (.iload 8, 2)) none))) (cond (Nat.ble pc 153) (cond (Nat.beq pc 153) (some (.iadd, 1)) none) (cond (Nat.ble pc 154) (cond (Nat.beq pc 154) (some (.putfield 63, 3)) none) (cond (Nat.beq pc 157) (some (.aload_n 1, 1)) none))))) (cond (Nat.ble pc 167) (cond (Nat.ble pc 162) (cond (Nat.ble pc 158) (cond (Nat.beq pc 158) (some (.iload 7, 2)) none) (cond (Nat.ble pc 160) (cond (Nat.beq pc 160) (some (.iload 8, 2)) none) (cond (Nat.beq pc 162) (some (.isub, 1)) none))) (cond (Nat.ble pc 163) (cond (Nat.beq pc 163) (some (.aload_n 0, 1)) none) (cond (Nat.ble pc 164) (cond (Nat.beq pc 164) (some (.getfield 19, 3)) none) (cond (Nat.beq pc 167) (some (.iconst 2, 1)) none)))) (cond (Nat.ble pc 174) (cond (Nat.ble pc 168) (cond (Nat.beq pc 168) (some (.invokevirtual 112, 3)) none) (cond (Nat.ble pc 171) (cond (Nat.beq pc 171) (some (.invokevirtual 298, 3)) none) (cond (Nat.beq pc 174) (some (.iload 7, 2)) none))) (cond (Nat.ble pc 176) (cond (Nat.beq pc 176) (some (.iload 8, 2)) none) (cond (Nat.ble pc 178) (cond (Nat.beq pc 178) (some (.isub, 1)) none) (cond (Nat.beq pc 179) (some (.ireturn, 1)) none)))))))
def q_gX8_haulBlock (pc : Nat) : Option (Instr × Nat) := cond (Nat.ble pc 46) (cond (Nat.ble pc 24) (cond (Nat.ble pc 10) (cond (Nat.ble pc 2) (cond (Nat.ble pc 0) (cond (Nat.beq pc 0) (some (.aload_n 1, 1)) none) (cond (Nat.ble pc 1) (cond (Nat.beq pc 1) (some (.lload_n 2, 1)) none) (cond (Nat.beq pc 2) (some (.invokevirtual 242, 3)) none))) (cond (Nat.ble pc 8) (cond (Nat.ble pc 5) (cond (Nat.beq pc 5) (some (.ifCond .eq 17, 3)) none) (cond (Nat.beq pc 8) (some (.aload_n 1, 1)) none)) (cond (Nat.ble pc 9) (cond (Nat.beq pc 9) (some (.lload_n 2, 1)) none) (cond (Nat.beq pc 10) (some (.ldc2_w 301, 3)) none)))) (cond (Nat.ble pc 15) (cond (Nat.ble pc 13) (cond (Nat.beq pc 13) (some (.ladd, 1)) none) (cond (Nat.ble pc 14) (cond (Nat.beq pc 14) (some (.lconst 1, 1)) none) (cond (Nat.beq pc 15) (some (.lsub, 1)) none))) (cond (Nat.ble pc 19) (cond (Nat.ble pc 16) (cond (Nat.beq pc 16) (some (.invokevirtual 242, 3)) none) (cond (Nat.beq pc 19) (some (.ifCond .ne 6, 3)) none)) (cond (Nat.ble pc 22) (cond (Nat.beq pc 22) (some (.bipush (-12), 2)) none) (cond (Nat.beq pc 24) (some (.ireturn, 1)) none))))) (cond (Nat.ble pc 36) (cond (Nat.ble pc 27) (cond (Nat.ble pc 25) (cond (Nat.beq pc 25) (some (.aload_n 0, 1)) none) (cond (Nat.ble pc 26) (cond (Nat.beq pc 26) (some (.aload_n 1, 1)) none) (cond (Nat.beq pc 27) (some (.lload_n 2, 1)) none))) (cond (Nat.ble pc 31) (cond (Nat.ble pc 28) (cond (Nat.beq pc 28) (some (.invokevirtual 303, 3)) none) (cond (Nat.beq pc 31) (some (.invokevirtual 147, 3)) none)) (cond (Nat.ble pc 34) (cond (Nat.beq pc 34) (some (.astore 4, 2)) none) (cond (Nat.beq pc 36) (some (.aload_n 1, 1)) none)))) (cond (Nat.ble pc 39) (cond (Nat.ble pc 37) (cond (Nat.beq pc 37) (some (.lload_n 2, 1)) none) (cond (Nat.ble pc 38) (cond (Nat.beq pc 38) (some (.lconst 1, 1)) none) (cond (Nat.beq pc 39) (some (.ladd, 1)) none))) (cond (Nat.ble pc 43) (cond (Nat.ble pc 40) (cond (Nat.beq pc 40) (some (.invokevirtual 303, 3)) none) (cond (Nat.beq pc 43) (some (.lstore 5, 2)) none)) (cond (Nat.ble pc 45) (cond (Nat.beq pc 45) (some (.aload_n 1, 1)) none) (cond (Nat.beq pc 46) (some (.lload_n 2, 1)) none)))))) (cond (Nat.ble pc 75) (cond (Nat.ble pc 61) (cond (Nat.ble pc 51) (cond (Nat.ble pc 47) (cond (Nat.beq pc 47) (some (.ldc2_w 307, 3)) none) (cond (Nat.ble pc 50) (cond (Nat.beq pc 50) (some (.ladd, 1)) none) (cond (Nat.beq pc 51) (some (.invokevirtual 303, 3)) none))) (cond (Nat.ble pc 56) (cond (Nat.ble pc 54) (cond (Nat.beq pc 54) (some (.lstore 7, 2)) none) (cond (Nat.beq pc 56) (some (.aload 4, 2)) none)) (cond (Nat.ble pc 58) (cond (Nat.beq pc 58) (some (.ifnull 13, 3)) none) (cond (Nat.beq pc 61) (some (.lload 5, 2)) none)))) (cond (Nat.ble pc 68) (cond (Nat.ble pc 63) (cond (Nat.beq pc 63) (some (.lload 7, 2)) none) (cond (Nat.ble pc 65) (cond (Nat.beq pc 65) (some (.invokestatic 204, 3)) none) (cond (Nat.beq pc 68) (some (.ifCond .ne 6, 3)) none))) (cond (Nat.ble pc 73) (cond (Nat.ble pc 71) (cond (Nat.beq pc 71) (some (.bipush (-21), 2)) none) (cond (Nat.beq pc 73) (some (.ireturn, 1)) none)) (cond (Nat.ble pc 74) (cond (Nat.beq pc 74) (some (.aload_n 0, 1)) none) (cond (Nat.beq pc 75) (some (.getfield 33, 3)) none))))) (cond (Nat.ble pc 92) (cond (Nat.ble pc 83) (cond (Nat.ble pc 78) (cond (Nat.beq pc 78) (some (.aload 4, 2)) none) (cond (Nat.ble pc 80) (cond (Nat.beq pc 80) (some (.getfield 164, 3)) none) (cond (Nat.beq pc 83) (some (.invokevirtual 141, 3)) none))) (cond (Nat.ble pc 89) (cond (Nat.ble pc 86) (cond (Nat.beq pc 86) (some (.ifCond .ne 6, 3)) none) (cond (Nat.beq pc 89) (some (.bipush (-22), 2)) none)) (cond (Nat.ble pc 91) (cond (Nat.beq pc 91) (some (.ireturn, 1)) none) (cond (Nat.beq pc 92) (some (.aload_n 0, 1)) none)))) (cond (Nat.ble pc 98) (cond (Nat.ble pc 95) (cond (Nat.ble pc 93) (cond (Nat.beq pc 93) (some (.aload 4, 2)) none) (cond (Nat.beq pc 95) (some (.lload 5, 2)) none)) (cond (Nat.ble pc 97) (cond (Nat.beq pc 97) (some (.l2i, 1)) none) (cond (Nat.beq pc 98) (some (.lload 7, 2)) none))) (cond (Nat.ble pc 103) (cond (Nat.ble pc 100) (cond (Nat.beq pc 100) (some (.invokevirtual 219, 3)) none) (cond (Nat.beq pc 103) (some (.pop, 1)) none)) (cond (Nat.ble pc 104) (cond (Nat.beq pc 104) (some (.iconst 0, 1)) none) (cond (Nat.beq pc 105) (some (.ireturn, 1)) none))))))
def q_gX9_init (pc : Nat) : Option (Instr × Nat) := cond (Nat.ble pc 144) (cond (Nat.ble pc 68) (cond (Nat.ble pc 34) (cond (Nat.ble pc 15) (cond (Nat.ble pc 5) (cond (Nat.ble pc 1) (cond (Nat.ble pc 0) (cond (Nat.beq pc 0) (some (.aload_n 0, 1)) none) (cond (Nat.beq pc 1) (some (.invokespecial 1, 3)) none)) (cond (Nat.ble pc 4) (cond (Nat.beq pc 4) (some (.aload_n 0, 1)) none) (cond (Nat.beq pc 5) (some (.sipush 200, 3)) none))) (cond (Nat.ble pc 10) (cond (Nat.ble pc 8) (cond (Nat.beq pc 8) (some (.newarray .int, 2)) none) (cond (Nat.beq pc 10) (some (.putfield 7, 3)) none)) (cond (Nat.ble pc 13) (cond (Nat.beq pc 13) (some (.aload_n 0, 1)) none) (cond (Nat.ble pc 14) (cond (Nat.beq pc 14) (some (.iconst 4, 1)) none) (cond (Nat.beq pc 15) (some (.newarray .int, 2)) none))))) (cond (Nat.ble pc 24) (cond (Nat.ble pc 20) (cond (Nat.ble pc 17) (cond (Nat.beq pc 17) (some (.putfield 13, 3)) none) (cond (Nat.beq pc 20) (some (.aload_n 0, 1)) none)) (cond (Nat.ble pc 21) (cond (Nat.beq pc 21) (some (.iconst 4, 1)) none) (cond (Nat.ble pc 22) (cond (Nat.beq pc 22) (some (.newarray .int, 2)) none) (cond (Nat.beq pc 24) (some (.putfield 16, 3)) none)))) (cond (Nat.ble pc 28) (cond (Nat.ble pc 27) (cond (Nat.beq pc 27) (some (.aload_n 0, 1)) none) (cond (Nat.beq pc 28) (some (.iconst 4, 1)) none)) (cond (Nat.ble pc 29) (cond (Nat.beq pc 29) (some (.newarray .int, 2)) none) (cond (Nat.ble pc 31) (cond (Nat.beq pc 31) (some (.putfield 19, 3)) none) (cond (Nat.beq pc 34) (some (.aload_n 0, 1)) none)))))) (cond (Nat.ble pc 49) (cond (Nat.ble pc 41) (cond (Nat.ble pc 36) (cond (Nat.ble pc 35) (cond (Nat.beq pc 35) (some (.iconst 4, 1)) none) (cond (Nat.beq pc 36) (some (.newarray .int, 2)) none)) (cond (Nat.ble pc 38) (cond (Nat.beq pc 38) (some (.putfield 22, 3)) none) (cond (Nat.beq pc 41) (some (.aload_n 0, 1)) none))) (cond (Nat.ble pc 43) (cond (Nat.ble pc 42) (cond (Nat.beq pc 42) (some (.iconst 4, 1)) none) (cond (Nat.beq pc 43) (some (.newarray .int, 2)) none)) (cond (Nat.ble pc 45) (cond (Nat.beq pc 45) (some (.putfield 25, 3)) none) (cond (Nat.ble pc 48) (cond (Nat.beq pc 48) (some (.aload_n 0, 1)) none) (cond (Nat.beq pc 49) (some (.iconst 4, 1)) none))))) (cond (Nat.ble pc 58) (cond (Nat.ble pc 52) (cond (Nat.ble pc 50) (cond (Nat.beq pc 50) (some (.newarray .int, 2)) none) (cond (Nat.beq pc 52) (some (.putfield 28, 3)) none)) (cond (Nat.ble pc 55) (cond (Nat.beq pc 55) (some (.aload_n 0, 1)) none) (cond (Nat.ble pc 56) (cond (Nat.beq pc 56) (some (.bipush 30, 2)) none) (cond (Nat.beq pc 58) (some (.newarray .int, 2)) none)))) (cond (Nat.ble pc 63) (cond (Nat.ble pc 60) (cond (Nat.beq pc 60) (some (.putfield 31, 3)) none) (cond (Nat.beq pc 63) (some (.aload_n 0, 1)) none)) (cond (Nat.ble pc 64) (cond (Nat.beq pc 64) (some (.bipush 30, 2)) none) (cond (Nat.ble pc 66) (cond (Nat.beq pc 66) (some (.newarray .int, 2)) none) (cond (Nat.beq pc 68) (some (.putfield 34, 3)) none))))))) (cond (Nat.ble pc 106) (cond (Nat.ble pc 87) (cond (Nat.ble pc 76) (cond (Nat.ble pc 72) (cond (Nat.ble pc 71) (cond (Nat.beq pc 71) (some (.aload_n 0, 1)) none) (cond (Nat.beq pc 72) (some (.bipush 30, 2)) none)) (cond (Nat.ble pc 74) (cond (Nat.beq pc 74) (some (.newarray .boolean, 2)) none) (cond (Nat.beq pc 76) (some (.putfield 37, 3)) none))) (cond (Nat.ble pc 80) (cond (Nat.ble pc 79) (cond (Nat.beq pc 79) (some (.aload_n 0, 1)) none) (cond (Nat.beq pc 80) (some (.bipush 30, 2)) none)) (cond (Nat.ble pc 82) (cond (Nat.beq pc 82) (some (.newarray .int, 2)) none) (cond (Nat.ble pc 84) (cond (Nat.beq pc 84) (some (.putfield 41, 3)) none) (cond (Nat.beq pc 87) (some (.aload_n 0, 1)) none))))) (cond (Nat.ble pc 96) (cond (Nat.ble pc 90) (cond (Nat.ble pc 88) (cond (Nat.beq pc 88) (some (.bipush 8, 2)) none) (cond (Nat.beq pc 90) (some (.newarray .int, 2)) none)) (cond (Nat.ble pc 92) (cond (Nat.beq pc 92) (some (.putfield 44, 3)) none) (cond (Nat.ble pc 95) (cond (Nat.beq pc 95) (some (.aload_n 0, 1)) none) (cond (Nat.beq pc 96) (some (.bipush 8, 2)) none)))) (cond (Nat.ble pc 100) (cond (Nat.ble pc 98) (cond (Nat.beq pc 98) (some (.newarray .int, 2)) none) (cond (Nat.beq pc 100) (some (.putfield 47, 3)) none)) (cond (Nat.ble pc 103) (cond (Nat.beq pc 103) (some (.aload_n 0, 1)) none) (cond (Nat.ble pc 104) (cond (Nat.beq pc 104) (some (.bipush 8, 2)) none) (cond (Nat.beq pc 106) (some (.newarray .int, 2)) none)))))) (cond (Nat.ble pc 124) (cond (Nat.ble pc 114) (cond (Nat.ble pc 111) (cond (Nat.ble pc 108) (cond (Nat.beq pc 108) (some (.putfield 50, 3)) none) (cond (Nat.beq pc 111) (some (.aload_n 0, 1)) none)) (cond (Nat.ble pc 112) (cond (Nat.beq pc 112) (some (.bipush 8, 2)) none) (cond (Nat.beq pc 114) (some (.newarray .int, 2)) none))) (cond (Nat.ble pc 119) (cond (Nat.ble pc 116) (cond (Nat.beq pc 116) (some (.putfield 53, 3)) none) (cond (Nat.beq pc 119) (some (.aload_n 0, 1)) none)) (cond (Nat.ble pc 120) (cond (Nat.beq pc 120) (some (.bipush 8, 2)) none) (cond (Nat.ble pc 122) (cond (Nat.beq pc 122) (some (.newarray .int, 2)) none) (cond (Nat.beq pc 124) (some (.putfield 56, 3)) none))))) (cond (Nat.ble pc 135) (cond (Nat.ble pc 128) (cond (Nat.ble pc 127) (cond (Nat.beq pc 127) (some (.aload_n 0, 1)) none) (cond (Nat.beq pc 128) (some (.bipush 8, 2)) none)) (cond (Nat.ble pc 130) (cond (Nat.beq pc 130) (some (.newarray .int, 2)) none) (cond (Nat.ble pc 132) (cond (Nat.beq pc 132) (some (.putfield 59, 3)) none) (cond (Nat.beq pc 135) (some (.aload_n 0, 1)) none)))) (cond (Nat.ble pc 138) (cond (Nat.ble pc 136) (cond (Nat.beq pc 136) (some (.bipush 8, 2)) none) (cond (Nat.beq pc 138) (some (.newarray .boolean, 2)) none)) (cond (Nat.ble pc 140) (cond (Nat.beq pc 140) (some (.putfield 62, 3)) none) (cond (Nat.ble pc 143) (cond (Nat.beq pc 143) (some (.aload_n 0, 1)) none) (cond (Nat.beq pc 144) (some (.sipush 240, 3)) none)))))))) (cond (Nat.ble pc 218) (cond (Nat.ble pc 184) (cond (Nat.ble pc 163) (cond (Nat.ble pc 153) (cond (Nat.ble pc 149) (cond (Nat.ble pc 147) (cond (Nat.beq pc 147) (some (.newarray .int, 2)) none) (cond (Nat.beq pc 149) (some (.putfield 65, 3)) none)) (cond (Nat.ble pc 152) (cond (Nat.beq pc 152) (some (.aload_n 0, 1)) none) (cond (Nat.beq pc 153) (some (.bipush 8, 2)) none))) (cond (Nat.ble pc 157) (cond (Nat.ble pc 155) (cond (Nat.beq pc 155) (some (.newarray .int, 2)) none) (cond (Nat.beq pc 157) (some (.putfield 68, 3)) none)) (cond (Nat.ble pc 160) (cond (Nat.beq pc 160) (some (.aload_n 0, 1)) none) (cond (Nat.ble pc 161) (cond (Nat.beq pc 161) (some (.bipush 8, 2)) none) (cond (Nat.beq pc 163) (some (.newarray .int, 2)) none))))) (cond (Nat.ble pc 173) (cond (Nat.ble pc 168) (cond (Nat.ble pc 165) (cond (Nat.beq pc 165) (some (.putfield 71, 3)) none) (cond (Nat.beq pc 168) (some (.aload_n 0, 1)) none)) (cond (Nat.ble pc 169) (cond (Nat.beq pc 169) (some (.bipush 8, 2)) none) (cond (Nat.ble pc 171) (cond (Nat.beq pc 171) (some (.newarray .int, 2)) none) (cond (Nat.beq pc 173) (some (.putfield 74, 3)) none)))) (cond (Nat.ble pc 177) (cond (Nat.ble pc 176) (cond (Nat.beq pc 176) (some (.aload_n 0, 1)) none) (cond (Nat.beq pc 177) (some (.bipush 41, 2)) none)) (cond (Nat.ble pc 179) (cond (Nat.beq pc 179) (some (.newarray .int, 2)) none) (cond (Nat.ble pc 181) (cond (Nat.beq pc 181) (some (.putfield 77, 3)) none) (cond (Nat.beq pc 184) (some (.aload_n 0, 1)) none)))))) (cond (Nat.ble pc 199) (cond (Nat.ble pc 191) (cond (Nat.ble pc 186) (cond (Nat.ble pc 185) (cond (Nat.beq pc 185) (some (.iconst 4, 1)) none) (cond (Nat.beq pc 186) (some (.newarray .int, 2)) none)) (cond (Nat.ble pc 188) (cond (Nat.beq pc 188) (some (.putfield 80, 3)) none) (cond (Nat.beq pc 191) (some (.aload_n 0, 1)) none))) (cond (Nat.ble pc 193) (cond (Nat.ble pc 192) (cond (Nat.beq pc 192) (some (.iconst 4, 1)) none) (cond (Nat.beq pc 193) (some (.newarray .int, 2)) none)) (cond (Nat.ble pc 195) (cond (Nat.beq pc 195) (some (.putfield 83, 3)) none) (cond (Nat.ble pc 198) (cond (Nat.beq pc 198) (some (.aload_n 0, 1)) none) (cond (Nat.beq pc 199) (some (.sipush 240, 3)) none))))) (cond (Nat.ble pc 209) (cond (Nat.ble pc 204) (cond (Nat.ble pc 202) (cond (Nat.beq pc 202) (some (.newarray .long, 2)) none) (cond (Nat.beq pc 204) (some (.putfield 86, 3)) none)) (cond (Nat.ble pc 207) (cond (Nat.beq pc 207) (some (.iconst 0, 1)) none) (cond (Nat.ble pc 208) (cond (Nat.beq pc 208) (some (.istore_n 1, 1)) none) (cond (Nat.beq pc 209) (some (.iload_n 1, 1)) none)))) (cond (Nat.ble pc 211) (cond (Nat.ble pc 210) (cond (Nat.beq pc 210) (some (.iconst 4, 1)) none) (cond (Nat.beq pc 211) (some (.if_icmp .ge 25, 3)) none)) (cond (Nat.ble pc 214) (cond (Nat.beq pc 214) (some (.aload_n 0, 1)) none) (cond (Nat.ble pc 215) (cond (Nat.beq pc 215) (some (.getfield 80, 3)) none) (cond (Nat.beq pc 218) (some (.iload_n 1, 1)) none))))))) (cond (Nat.ble pc 250) (cond (Nat.ble pc 233) (cond (Nat.ble pc 223) (cond (Nat.ble pc 221) (cond (Nat.ble pc 219) (cond (Nat.beq pc 219) (some (.bipush (-4), 2)) none) (cond (Nat.beq pc 221) (some (.iastore, 1)) none)) (cond (Nat.ble pc 222) (cond (Nat.beq pc 222) (some (.aload_n 0, 1)) none) (cond (Nat.beq pc 223) (some (.getfield 13, 3)) none))) (cond (Nat.ble pc 227) (cond (Nat.ble pc 226) (cond (Nat.beq pc 226) (some (.iload_n 1, 1)) none) (cond (Nat.beq pc 227) (some (.bipush (-4), 2)) none)) (cond (Nat.ble pc 229) (cond (Nat.beq pc 229) (some (.iastore, 1)) none) (cond (Nat.ble pc 230) (cond (Nat.beq pc 230) (some (.iinc 1 1, 3)) none) (cond (Nat.beq pc 233) (some (.goto (-24), 3)) none))))) (cond (Nat.ble pc 241) (cond (Nat.ble pc 237) (cond (Nat.ble pc 236) (cond (Nat.beq pc 236) (some (.iconst 0, 1)) none) (cond (Nat.beq pc 237) (some (.istore_n 1, 1)) none)) (cond (Nat.ble pc 238) (cond (Nat.beq pc 238) (some (.iload_n 1, 1)) none) (cond (Nat.ble pc 239) (cond (Nat.beq pc 239) (some (.bipush 30, 2)) none) (cond (Nat.beq pc 241) (some (.if_icmp .ge 24, 3)) none)))) (cond (Nat.ble pc 245) (cond (Nat.ble pc 244) (cond (Nat.beq pc 244) (some (.aload_n 0, 1)) none) (cond (Nat.beq pc 245) (some (.getfield 31, 3)) none)) (cond (Nat.ble pc 248) (cond (Nat.beq pc 248) (some (.iload_n 1, 1)) none) (cond (Nat.ble pc 249) (cond (Nat.beq pc 249) (some (.iconst 5, 1)) none) (cond (Nat.beq pc 250) (some (.iastore, 1)) none)))))) (cond (Nat.ble pc 267) (cond (Nat.ble pc 258) (cond (Nat.ble pc 252) (cond (Nat.ble pc 251) (cond (Nat.beq pc 251) (some (.aload_n 0, 1)) none) (cond (Nat.beq pc 252) (some (.getfield 41, 3)) none)) (cond (Nat.ble pc 255) (cond (Nat.beq pc 255) (some (.iload_n 1, 1)) none) (cond (Nat.ble pc 256) (cond (Nat.beq pc 256) (some (.bipush (-4), 2)) none) (cond (Nat.beq pc 258) (some (.iastore, 1)) none)))) (cond (Nat.ble pc 262) (cond (Nat.ble pc 259) (cond (Nat.beq pc 259) (some (.iinc 1 1, 3)) none) (cond (Nat.beq pc 262) (some (.goto (-24), 3)) none)) (cond (Nat.ble pc 265) (cond (Nat.beq pc 265) (some (.iconst 0, 1)) none) (cond (Nat.ble pc 266) (cond (Nat.beq pc 266) (some (.istore_n 1, 1)) none) (cond (Nat.beq pc 267) (some (.iload_n 1, 1)) none))))) (cond (Nat.ble pc 278) (cond (Nat.ble pc 271) (cond (Nat.ble pc 268) (cond (Nat.beq pc 268) (some (.sipush 240, 3)) none) (cond (Nat.beq pc 271) (some (.if_icmp .ge 17, 3)) none)) (cond (Nat.ble pc 274) (cond (Nat.beq pc 274) (some (.aload_n 0, 1)) none) (cond (Nat.ble pc 275) (cond (Nat.beq pc 275) (some (.getfield 65, 3)) none) (cond (Nat.beq pc 278) (some (.iload_n 1, 1)) none)))) (cond (Nat.ble pc 281) (cond (Nat.ble pc 279) (cond (Nat.beq pc 279) (some (.bipush (-4), 2)) none) (cond (Nat.beq pc 281) (some (.iastore, 1)) none)) (cond (Nat.ble pc 282) (cond (Nat.beq pc 282) (some (.iinc 1 1, 3)) none) (cond (Nat.ble pc 285) (cond (Nat.beq pc 285) (some (.goto (-18), 3)) none) (cond (Nat.beq pc 288) (some (.return_, 1)) none))))))))
def q_gX9_in (pc : Nat) : Option (Instr × Nat) := cond (Nat.ble pc 7) (cond (Nat.ble pc 2) (cond (Nat.ble pc 0) (cond (Nat.beq pc 0) (some (.lload_n 0, 1)) none) (cond (Nat.ble pc 1) (cond (Nat.beq pc 1) (some (.lload_n 2, 1)) none) (cond (Nat.beq pc 2) (some (.lcmp, 1)) none))) (cond (Nat.ble pc 3) (cond (Nat.beq pc 3) (some (.ifCond .lt 14, 3)) none) (cond (Nat.ble pc 6) (cond (Nat.beq pc 6) (some (.lload_n 0, 1)) none) (cond (Nat.beq pc 7) (some (.lload 4, 2)) none)))) (cond (Nat.ble pc 13) (cond (Nat.ble pc 9) (cond (Nat.beq pc 9) (some (.lcmp, 1)) none) (cond (Nat.ble pc 10) (cond (Nat.beq pc 10) (some (.ifCond .gt 7, 3)) none) (cond (Nat.beq pc 13) (some (.iconst 1, 1)) none))) (cond (Nat.ble pc 14) (cond (Nat.beq pc 14) (some (.goto 4, 3)) none) (cond (Nat.ble pc 17) (cond (Nat.beq pc 17) (some (.iconst 0, 1)) none) (cond (Nat.beq pc 18) (some (.ireturn, 1)) none))))
def q_gX9_feed (pc : Nat) : Option (Instr × Nat) := cond (Nat.ble pc 31) (cond (Nat.ble pc 15) (cond (Nat.ble pc 6) (cond (Nat.ble pc 1) (cond (Nat.ble pc 0) (cond (Nat.beq pc 0) (some (.aload_n 0, 1)) none) (cond (Nat.beq pc 1) (some (.getfield 90, 3)) none)) (cond (Nat.ble pc 4) (cond (Nat.beq pc 4) (some (.bipush 8, 2)) none) (cond (Nat.beq pc 6) (some (.iadd, 1)) none))) (cond (Nat.ble pc 10) (cond (Nat.ble pc 7) (cond (Nat.beq pc 7) (some (.sipush 200, 3)) none) (cond (Nat.beq pc 10) (some (.if_icmp .le 6, 3)) none)) (cond (Nat.ble pc 13) (cond (Nat.beq pc 13) (some (.bipush (-3), 2)) none) (cond (Nat.beq pc 15) (some (.ireturn, 1)) none)))) (cond (Nat.ble pc 20) (cond (Nat.ble pc 18) (cond (Nat.ble pc 16) (cond (Nat.beq pc 16) (some (.bipush 56, 2)) none) (cond (Nat.beq pc 18) (some (.istore_n 3, 1)) none)) (cond (Nat.ble pc 19) (cond (Nat.beq pc 19) (some (.iload_n 3, 1)) none) (cond (Nat.beq pc 20) (some (.ifCond .lt 36, 3)) none))) (cond (Nat.ble pc 24) (cond (Nat.ble pc 23) (cond (Nat.beq pc 23) (some (.aload_n 0, 1)) none) (cond (Nat.beq pc 24) (some (.getfield 7, 3)) none)) (cond (Nat.ble pc 27) (cond (Nat.beq pc 27) (some (.aload_n 0, 1)) none) (cond (Nat.ble pc 28) (cond (Nat.beq pc 28) (some (.getfield 90, 3)) none) (cond (Nat.beq pc 31) (some (.lload_n 1, 1)) none)))))) (cond (Nat.ble pc 41) (cond (Nat.ble pc 37) (cond (Nat.ble pc 33) (cond (Nat.ble pc 32) (cond (Nat.beq pc 32) (some (.iload_n 3, 1)) none) (cond (Nat.beq pc 33) (some (.lshr, 1)) none)) (cond (Nat.ble pc 34) (cond (Nat.beq pc 34) (some (.ldc2_w 94, 3)) none) (cond (Nat.beq pc 37) (some (.land, 1)) none))) (cond (Nat.ble pc 39) (cond (Nat.ble pc 38) (cond (Nat.beq pc 38) (some (.l2i, 1)) none) (cond (Nat.beq pc 39) (some (.iastore, 1)) none)) (cond (Nat.ble pc 40) (cond (Nat.beq pc 40) (some (.aload_n 0, 1)) none) (cond (Nat.beq pc 41) (some (.dup, 1)) none)))) (cond (Nat.ble pc 47) (cond (Nat.ble pc 45) (cond (Nat.ble pc 42) (cond (Nat.beq pc 42) (some (.getfield 90, 3)) none) (cond (Nat.beq pc 45) (some (.iconst 1, 1)) none)) (cond (Nat.ble pc 46) (cond (Nat.beq pc 46) (some (.iadd, 1)) none) (cond (Nat.beq pc 47) (some (.putfield 90, 3)) none))) (cond (Nat.ble pc 53) (cond (Nat.ble pc 50) (cond (Nat.beq pc 50) (some (.iinc 3 (-8), 3)) none) (cond (Nat.beq pc 53) (some (.goto (-34), 3)) none)) (cond (Nat.ble pc 56) (cond (Nat.beq pc 56) (some (.aload_n 0, 1)) none) (cond (Nat.ble pc 57) (cond (Nat.beq pc 57) (some (.getfield 90, 3)) none) (cond (Nat.beq pc 60) (some (.ireturn, 1)) none))))))
def q_gX9_end (pc : Nat) : Option (Instr × Nat) := cond (Nat.ble pc 14) (cond (Nat.ble pc 3) (cond (Nat.ble pc 1) (cond (Nat.ble pc 0) (cond (Nat.beq pc 0) (some (.iload_n 1, 1)) none) (cond (Nat.beq pc 1) (some (.i2l, 1)) none)) (cond (Nat.ble pc 2) (cond (Nat.beq pc 2) (some (.lconst 0, 1)) none) (cond (Nat.beq pc 3) (some (.aload_n 0, 1)) none))) (cond (Nat.ble pc 7) (cond (Nat.ble pc 4) (cond (Nat.beq pc 4) (some (.getfield 90, 3)) none) (cond (Nat.beq pc 7) (some (.i2l, 1)) none)) (cond (Nat.ble pc 8) (cond (Nat.beq pc 8) (some (.invokestatic 96, 3)) none) (cond (Nat.ble pc 11) (cond (Nat.beq pc 11) (some (.ifCond .ne 5, 3)) none) (cond (Nat.beq pc 14) (some (.iconst (-1), 1)) none))))) (cond (Nat.ble pc 20) (cond (Nat.ble pc 16) (cond (Nat.ble pc 15) (cond (Nat.beq pc 15) (some (.ireturn, 1)) none) (cond (Nat.beq pc 16) (some (.aload_n 0, 1)) none)) (cond (Nat.ble pc 17) (cond (Nat.beq pc 17) (some (.getfield 90, 3)) none) (cond (Nat.beq pc 20) (some (.istore_n 2, 1)) none))) (cond (Nat.ble pc 22) (cond (Nat.ble pc 21) (cond (Nat.beq pc 21) (some (.aload_n 0, 1)) none) (cond (Nat.beq pc 22) (some (.iload_n 1, 1)) none)) (cond (Nat.ble pc 23) (cond (Nat.beq pc 23) (some (.putfield 90, 3)) none) (cond (Nat.ble pc 26) (cond (Nat.beq pc 26) (some (.iload_n 2, 1)) none) (cond (Nat.beq pc 27) (some (.ireturn, 1)) none)))))
def q_gX9_fails (pc : Nat) : Option (Instr × Nat) := cond (Nat.ble pc 8) (cond (Nat.ble pc 1) (cond (Nat.ble pc 0) (cond (Nat.beq pc 0) (some (.aload_n 0, 1)) none) (cond (Nat.beq pc 1) (some (.getfield 100, 3)) none)) (cond (Nat.ble pc 4) (cond (Nat.beq pc 4) (some (.ifCond .ne 13, 3)) none) (cond (Nat.ble pc 7) (cond (Nat.beq pc 7) (some (.aload_n 0, 1)) none) (cond (Nat.beq pc 8) (some (.iload_n 1, 1)) none)))) (cond (Nat.ble pc 12) (cond (Nat.ble pc 9) (cond (Nat.beq pc 9) (some (.putfield 100, 3)) none) (cond (Nat.beq pc 12) (some (.aload_n 0, 1)) none)) (cond (Nat.ble pc 13) (cond (Nat.beq pc 13) (some (.iload_n 2, 1)) none) (cond (Nat.ble pc 14) (cond (Nat.beq pc 14) (some (.putfield 103, 3)) none) (cond (Nat.beq pc 17) (some (.return_, 1)) none))))
def q_gX9_look (pc : Nat) : Option (Instr × Nat) := cond (Nat.ble pc 8) (cond (Nat.ble pc 1) (cond (Nat.ble pc 0) (cond (Nat.beq pc 0) (some (.iload_n 1, 1)) none) (cond (Nat.beq pc 1) (some (.aload_n 0, 1)) none)) (cond (Nat.ble pc 2) (cond (Nat.beq pc 2) (some (.getfield 90, 3)) none) (cond (Nat.ble pc 5) (cond (Nat.beq pc 5) (some (.if_icmp .ge 12, 3)) none) (cond (Nat.beq pc 8) (some (.aload_n 0, 1)) none)))) (cond (Nat.ble pc 13) (cond (Nat.ble pc 9) (cond (Nat.beq pc 9) (some (.getfield 7, 3)) none) (cond (Nat.ble pc 12) (cond (Nat.beq pc 12) (some (.iload_n 1, 1)) none) (cond (Nat.beq pc 13) (some (.iaload, 1)) none))) (cond (Nat.ble pc 14) (cond (Nat.beq pc 14) (some (.goto 4, 3)) none) (cond (Nat.ble pc 17) (cond (Nat.beq pc 17) (some (.iconst (-1), 1)) none) (cond (Nat.beq pc 18) (some (.ireturn, 1)) none))))
def q_gX9_isName (pc : Nat) : Option (Instr × Nat) := cond (Nat.ble pc 58) (cond (Nat.ble pc 29) (cond (Nat.ble pc 14) (cond (Nat.ble pc 5) (cond (Nat.ble pc 0) (cond (Nat.beq pc 0) (some (.iload 4, 2)) none) (cond (Nat.ble pc 2) (cond (Nat.beq pc 2) (some (.ifCond .ne 7, 3)) none) (cond (Nat.beq pc 5) (some (.iconst 3, 1)) none))) (cond (Nat.ble pc 9) (cond (Nat.ble pc 6) (cond (Nat.beq pc 6) (some (.goto 13, 3)) none) (cond (Nat.beq pc 9) (some (.iload 5, 2)) none)) (cond (Nat.ble pc 11) (cond (Nat.beq pc 11) (some (.ifCond .ne 7, 3)) none) (cond (Nat.beq pc 14) (some (.iconst 4, 1)) none)))) (cond (Nat.ble pc 21) (cond (Nat.ble pc 18) (cond (Nat.ble pc 15) (cond (Nat.beq pc 15) (some (.goto 4, 3)) none) (cond (Nat.beq pc 18) (some (.iconst 5, 1)) none)) (cond (Nat.ble pc 19) (cond (Nat.beq pc 19) (some (.istore 6, 2)) none) (cond (Nat.beq pc 21) (some (.aload_n 0, 1)) none))) (cond (Nat.ble pc 25) (cond (Nat.ble pc 22) (cond (Nat.beq pc 22) (some (.getfield 106, 3)) none) (cond (Nat.beq pc 25) (some (.aload_n 0, 1)) none)) (cond (Nat.ble pc 26) (cond (Nat.beq pc 26) (some (.getfield 109, 3)) none) (cond (Nat.beq pc 29) (some (.isub, 1)) none))))) (cond (Nat.ble pc 44) (cond (Nat.ble pc 36) (cond (Nat.ble pc 32) (cond (Nat.ble pc 30) (cond (Nat.beq pc 30) (some (.iload 6, 2)) none) (cond (Nat.beq pc 32) (some (.if_icmp .ne 87, 3)) none)) (cond (Nat.ble pc 35) (cond (Nat.beq pc 35) (some (.aload_n 0, 1)) none) (cond (Nat.beq pc 36) (some (.aload_n 0, 1)) none))) (cond (Nat.ble pc 40) (cond (Nat.ble pc 37) (cond (Nat.beq pc 37) (some (.getfield 109, 3)) none) (cond (Nat.beq pc 40) (some (.invokevirtual 112, 3)) none)) (cond (Nat.ble pc 43) (cond (Nat.beq pc 43) (some (.iload_n 1, 1)) none) (cond (Nat.beq pc 44) (some (.if_icmp .ne 75, 3)) none)))) (cond (Nat.ble pc 52) (cond (Nat.ble pc 48) (cond (Nat.ble pc 47) (cond (Nat.beq pc 47) (some (.aload_n 0, 1)) none) (cond (Nat.beq pc 48) (some (.aload_n 0, 1)) none)) (cond (Nat.ble pc 49) (cond (Nat.beq pc 49) (some (.getfield 109, 3)) none) (cond (Nat.beq pc 52) (some (.iconst 1, 1)) none))) (cond (Nat.ble pc 54) (cond (Nat.ble pc 53) (cond (Nat.beq pc 53) (some (.iadd, 1)) none) (cond (Nat.beq pc 54) (some (.invokevirtual 112, 3)) none)) (cond (Nat.ble pc 57) (cond (Nat.beq pc 57) (some (.iload_n 2, 1)) none) (cond (Nat.beq pc 58) (some (.if_icmp .ne 61, 3)) none)))))) (cond (Nat.ble pc 87) (cond (Nat.ble pc 72) (cond (Nat.ble pc 66) (cond (Nat.ble pc 62) (cond (Nat.ble pc 61) (cond (Nat.beq pc 61) (some (.aload_n 0, 1)) none) (cond (Nat.beq pc 62) (some (.aload_n 0, 1)) none)) (cond (Nat.ble pc 63) (cond (Nat.beq pc 63) (some (.getfield 109, 3)) none) (cond (Nat.beq pc 66) (some (.iconst 2, 1)) none))) (cond (Nat.ble pc 68) (cond (Nat.ble pc 67) (cond (Nat.beq pc 67) (some (.iadd, 1)) none) (cond (Nat.beq pc 68) (some (.invokevirtual 112, 3)) none)) (cond (Nat.ble pc 71) (cond (Nat.beq pc 71) (some (.iload_n 3, 1)) none) (cond (Nat.beq pc 72) (some (.if_icmp .ne 47, 3)) none)))) (cond (Nat.ble pc 81) (cond (Nat.ble pc 77) (cond (Nat.ble pc 75) (cond (Nat.beq pc 75) (some (.iload 4, 2)) none) (cond (Nat.beq pc 77) (some (.ifCond .eq 18, 3)) none)) (cond (Nat.ble pc 80) (cond (Nat.beq pc 80) (some (.aload_n 0, 1)) none) (cond (Nat.beq pc 81) (some (.aload_n 0, 1)) none))) (cond (Nat.ble pc 85) (cond (Nat.ble pc 82) (cond (Nat.beq pc 82) (some (.getfield 109, 3)) none) (cond (Nat.beq pc 85) (some (.iconst 3, 1)) none)) (cond (Nat.ble pc 86) (cond (Nat.beq pc 86) (some (.iadd, 1)) none) (cond (Nat.beq pc 87) (some (.invokevirtual 112, 3)) none))))) (cond (Nat.ble pc 105) (cond (Nat.ble pc 97) (cond (Nat.ble pc 92) (cond (Nat.ble pc 90) (cond (Nat.beq pc 90) (some (.iload 4, 2)) none) (cond (Nat.beq pc 92) (some (.if_icmp .ne 27, 3)) none)) (cond (Nat.ble pc 95) (cond (Nat.beq pc 95) (some (.iload 5, 2)) none) (cond (Nat.beq pc 97) (some (.ifCond .eq 18, 3)) none))) (cond (Nat.ble pc 101) (cond (Nat.ble pc 100) (cond (Nat.beq pc 100) (some (.aload_n 0, 1)) none) (cond (Nat.beq pc 101) (some (.aload_n 0, 1)) none)) (cond (Nat.ble pc 102) (cond (Nat.beq pc 102) (some (.getfield 109, 3)) none) (cond (Nat.beq pc 105) (some (.iconst 4, 1)) none)))) (cond (Nat.ble pc 112) (cond (Nat.ble pc 107) (cond (Nat.ble pc 106) (cond (Nat.beq pc 106) (some (.iadd, 1)) none) (cond (Nat.beq pc 107) (some (.invokevirtual 112, 3)) none)) (cond (Nat.ble pc 110) (cond (Nat.beq pc 110) (some (.iload 5, 2)) none) (cond (Nat.beq pc 112) (some (.if_icmp .ne 7, 3)) none))) (cond (Nat.ble pc 116) (cond (Nat.ble pc 115) (cond (Nat.beq pc 115) (some (.iconst 1, 1)) none) (cond (Nat.beq pc 116) (some (.goto 4, 3)) none)) (cond (Nat.ble pc 119) (cond (Nat.beq pc 119) (some (.iconst 0, 1)) none) (cond (Nat.beq pc 120) (some (.ireturn, 1)) none))))))
def q_gX9_nameNow (pc : Nat) : Option (Instr × Nat) := cond (Nat.ble pc 44) (cond (Nat.ble pc 20) (cond (Nat.ble pc 8) (cond (Nat.ble pc 3) (cond (Nat.ble pc 0) (cond (Nat.beq pc 0) (some (.aload_n 0, 1)) none) (cond (Nat.ble pc 1) (cond (Nat.beq pc 1) (some (.bipush 116, 2)) none) (cond (Nat.beq pc 3) (some (.bipush 111, 2)) none))) (cond (Nat.ble pc 5) (cond (Nat.beq pc 5) (some (.bipush 112, 2)) none) (cond (Nat.ble pc 7) (cond (Nat.beq pc 7) (some (.iconst 0, 1)) none) (cond (Nat.beq pc 8) (some (.iconst 0, 1)) none)))) (cond (Nat.ble pc 15) (cond (Nat.ble pc 9) (cond (Nat.beq pc 9) (some (.invokevirtual 116, 3)) none) (cond (Nat.ble pc 12) (cond (Nat.beq pc 12) (some (.ifCond .eq 5, 3)) none) (cond (Nat.beq pc 15) (some (.iconst 0, 1)) none))) (cond (Nat.ble pc 17) (cond (Nat.ble pc 16) (cond (Nat.beq pc 16) (some (.ireturn, 1)) none) (cond (Nat.beq pc 17) (some (.aload_n 0, 1)) none)) (cond (Nat.ble pc 18) (cond (Nat.beq pc 18) (some (.bipush 104, 2)) none) (cond (Nat.beq pc 20) (some (.bipush 97, 2)) none))))) (cond (Nat.ble pc 33) (cond (Nat.ble pc 26) (cond (Nat.ble pc 22) (cond (Nat.beq pc 22) (some (.bipush 110, 2)) none) (cond (Nat.ble pc 24) (cond (Nat.beq pc 24) (some (.bipush 103, 2)) none) (cond (Nat.beq pc 26) (some (.iconst 0, 1)) none))) (cond (Nat.ble pc 27) (cond (Nat.beq pc 27) (some (.invokevirtual 116, 3)) none) (cond (Nat.ble pc 30) (cond (Nat.beq pc 30) (some (.ifCond .eq 5, 3)) none) (cond (Nat.beq pc 33) (some (.iconst 1, 1)) none)))) (cond (Nat.ble pc 36) (cond (Nat.ble pc 34) (cond (Nat.beq pc 34) (some (.ireturn, 1)) none) (cond (Nat.ble pc 35) (cond (Nat.beq pc 35) (some (.aload_n 0, 1)) none) (cond (Nat.beq pc 36) (some (.bipush 116, 2)) none))) (cond (Nat.ble pc 40) (cond (Nat.ble pc 38) (cond (Nat.beq pc 38) (some (.bipush 111, 2)) none) (cond (Nat.beq pc 40) (some (.bipush 111, 2)) none)) (cond (Nat.ble pc 42) (cond (Nat.beq pc 42) (some (.bipush 108, 2)) none) (cond (Nat.beq pc 44) (some (.iconst 0, 1)) none)))))) (cond (Nat.ble pc 69) (cond (Nat.ble pc 54) (cond (Nat.ble pc 51) (cond (Nat.ble pc 45) (cond (Nat.beq pc 45) (some (.invokevirtual 116, 3)) none) (cond (Nat.ble pc 48) (cond (Nat.beq pc 48) (some (.ifCond .eq 5, 3)) none) (cond (Nat.beq pc 51) (some (.iconst 2, 1)) none))) (cond (Nat.ble pc 52) (cond (Nat.beq pc 52) (some (.ireturn, 1)) none) (cond (Nat.ble pc 53) (cond (Nat.beq pc 53) (some (.aload_n 0, 1)) none) (cond (Nat.beq pc 54) (some (.bipush 99, 2)) none)))) (cond (Nat.ble pc 60) (cond (Nat.ble pc 56) (cond (Nat.beq pc 56) (some (.bipush 108, 2)) none) (cond (Nat.ble pc 58) (cond (Nat.beq pc 58) (some (.bipush 117, 2)) none) (cond (Nat.beq pc 60) (some (.bipush 98, 2)) none))) (cond (Nat.ble pc 63) (cond (Nat.ble pc 62) (cond (Nat.beq pc 62) (some (.iconst 0, 1)) none) (cond (Nat.beq pc 63) (some (.invokevirtual 116, 3)) none)) (cond (Nat.ble pc 66) (cond (Nat.beq pc 66) (some (.ifCond .eq 5, 3)) none) (cond (Nat.beq pc 69) (some (.iconst 3, 1)) none))))) (cond (Nat.ble pc 78) (cond (Nat.ble pc 72) (cond (Nat.ble pc 70) (cond (Nat.beq pc 70) (some (.ireturn, 1)) none) (cond (Nat.ble pc 71) (cond (Nat.beq pc 71) (some (.aload_n 0, 1)) none) (cond (Nat.beq pc 72) (some (.bipush 112, 2)) none))) (cond (Nat.ble pc 74) (cond (Nat.beq pc 74) (some (.bipush 111, 2)) none) (cond (Nat.ble pc 76) (cond (Nat.beq pc 76) (some (.bipush 117, 2)) none) (cond (Nat.beq pc 78) (some (.bipush 110, 2)) none)))) (cond (Nat.ble pc 85) (cond (Nat.ble pc 80) (cond (Nat.beq pc 80) (some (.bipush 100, 2)) none) (cond (Nat.ble pc 82) (cond (Nat.beq pc 82) (some (.invokevirtual 116, 3)) none) (cond (Nat.beq pc 85) (some (.ifCond .eq 7, 3)) none))) (cond (Nat.ble pc 89) (cond (Nat.ble pc 88) (cond (Nat.beq pc 88) (some (.iconst 4, 1)) none) (cond (Nat.beq pc 89) (some (.goto 5, 3)) none)) (cond (Nat.ble pc 92) (cond (Nat.beq pc 92) (some (.bipush (-4), 2)) none) (cond (Nat.beq pc 94) (some (.ireturn, 1)) none))))))
def q_gX9_next (pc : Nat) : Option (Instr × Nat) := cond (Nat.ble pc 152) (cond (Nat.ble pc 71) (cond (Nat.ble pc 34) (cond (Nat.ble pc 15) (cond (Nat.ble pc 5) (cond (Nat.ble pc 1) (cond (Nat.ble pc 0) (cond (Nat.beq pc 0) (some (.aload_n 0, 1)) none) (cond (Nat.beq pc 1) (some (.aload_n 0, 1)) none)) (cond (Nat.ble pc 2) (cond (Nat.beq pc 2) (some (.getfield 106, 3)) none) (cond (Nat.beq pc 5) (some (.invokevirtual 112, 3)) none))) (cond (Nat.ble pc 10) (cond (Nat.ble pc 8) (cond (Nat.beq pc 8) (some (.bipush 32, 2)) none) (cond (Nat.beq pc 10) (some (.if_icmp .ne 16, 3)) none)) (cond (Nat.ble pc 13) (cond (Nat.beq pc 13) (some (.aload_n 0, 1)) none) (cond (Nat.ble pc 14) (cond (Nat.beq pc 14) (some (.dup, 1)) none) (cond (Nat.beq pc 15) (some (.getfield 106, 3)) none))))) (cond (Nat.ble pc 23) (cond (Nat.ble pc 19) (cond (Nat.ble pc 18) (cond (Nat.beq pc 18) (some (.iconst 1, 1)) none) (cond (Nat.beq pc 19) (some (.iadd, 1)) none)) (cond (Nat.ble pc 20) (cond (Nat.beq pc 20) (some (.putfield 106, 3)) none) (cond (Nat.beq pc 23) (some (.goto (-23), 3)) none))) (cond (Nat.ble pc 27) (cond (Nat.ble pc 26) (cond (Nat.beq pc 26) (some (.aload_n 0, 1)) none) (cond (Nat.beq pc 27) (some (.aload_n 0, 1)) none)) (cond (Nat.ble pc 28) (cond (Nat.beq pc 28) (some (.getfield 106, 3)) none) (cond (Nat.ble pc 31) (cond (Nat.beq pc 31) (some (.putfield 109, 3)) none) (cond (Nat.beq pc 34) (some (.aload_n 0, 1)) none)))))) (cond (Nat.ble pc 49) (cond (Nat.ble pc 42) (cond (Nat.ble pc 36) (cond (Nat.ble pc 35) (cond (Nat.beq pc 35) (some (.aload_n 0, 1)) none) (cond (Nat.beq pc 36) (some (.getfield 106, 3)) none)) (cond (Nat.ble pc 39) (cond (Nat.beq pc 39) (some (.invokevirtual 112, 3)) none) (cond (Nat.beq pc 42) (some (.istore_n 1, 1)) none))) (cond (Nat.ble pc 44) (cond (Nat.ble pc 43) (cond (Nat.beq pc 43) (some (.iload_n 1, 1)) none) (cond (Nat.beq pc 44) (some (.ifCond .ge 11, 3)) none)) (cond (Nat.ble pc 47) (cond (Nat.beq pc 47) (some (.aload_n 0, 1)) none) (cond (Nat.ble pc 48) (cond (Nat.beq pc 48) (some (.iconst 0, 1)) none) (cond (Nat.beq pc 49) (some (.putfield 120, 3)) none))))) (cond (Nat.ble pc 60) (cond (Nat.ble pc 55) (cond (Nat.ble pc 52) (cond (Nat.beq pc 52) (some (.goto 244, 3)) none) (cond (Nat.beq pc 55) (some (.iload_n 1, 1)) none)) (cond (Nat.ble pc 56) (cond (Nat.beq pc 56) (some (.i2l, 1)) none) (cond (Nat.ble pc 57) (cond (Nat.beq pc 57) (some (.ldc2_w 123, 3)) none) (cond (Nat.beq pc 60) (some (.ldc2_w 125, 3)) none)))) (cond (Nat.ble pc 66) (cond (Nat.ble pc 63) (cond (Nat.beq pc 63) (some (.invokestatic 96, 3)) none) (cond (Nat.beq pc 66) (some (.ifCond .eq 71, 3)) none)) (cond (Nat.ble pc 69) (cond (Nat.beq pc 69) (some (.aload_n 0, 1)) none) (cond (Nat.ble pc 70) (cond (Nat.beq pc 70) (some (.iconst 1, 1)) none) (cond (Nat.beq pc 71) (some (.putfield 120, 3)) none))))))) (cond (Nat.ble pc 110) (cond (Nat.ble pc 92) (cond (Nat.ble pc 79) (cond (Nat.ble pc 75) (cond (Nat.ble pc 74) (cond (Nat.beq pc 74) (some (.aload_n 0, 1)) none) (cond (Nat.beq pc 75) (some (.aload_n 0, 1)) none)) (cond (Nat.ble pc 76) (cond (Nat.beq pc 76) (some (.getfield 106, 3)) none) (cond (Nat.beq pc 79) (some (.invokevirtual 112, 3)) none))) (cond (Nat.ble pc 83) (cond (Nat.ble pc 82) (cond (Nat.beq pc 82) (some (.i2l, 1)) none) (cond (Nat.beq pc 83) (some (.ldc2_w 123, 3)) none)) (cond (Nat.ble pc 86) (cond (Nat.beq pc 86) (some (.ldc2_w 125, 3)) none) (cond (Nat.ble pc 89) (cond (Nat.beq pc 89) (some (.invokestatic 96, 3)) none) (cond (Nat.beq pc 92) (some (.ifCond .eq 16, 3)) none))))) (cond (Nat.ble pc 101) (cond (Nat.ble pc 96) (cond (Nat.ble pc 95) (cond (Nat.beq pc 95) (some (.aload_n 0, 1)) none) (cond (Nat.beq pc 96) (some (.dup, 1)) none)) (cond (Nat.ble pc 97) (cond (Nat.beq pc 97) (some (.getfield 106, 3)) none) (cond (Nat.ble pc 100) (cond (Nat.beq pc 100) (some (.iconst 1, 1)) none) (cond (Nat.beq pc 101) (some (.iadd, 1)) none)))) (cond (Nat.ble pc 105) (cond (Nat.ble pc 102) (cond (Nat.beq pc 102) (some (.putfield 106, 3)) none) (cond (Nat.beq pc 105) (some (.goto (-31), 3)) none)) (cond (Nat.ble pc 108) (cond (Nat.beq pc 108) (some (.aload_n 0, 1)) none) (cond (Nat.ble pc 109) (cond (Nat.beq pc 109) (some (.aload_n 0, 1)) none) (cond (Nat.beq pc 110) (some (.invokevirtual 127, 3)) none)))))) (cond (Nat.ble pc 128) (cond (Nat.ble pc 120) (cond (Nat.ble pc 116) (cond (Nat.ble pc 113) (cond (Nat.beq pc 113) (some (.putfield 131, 3)) none) (cond (Nat.beq pc 116) (some (.aload_n 0, 1)) none)) (cond (Nat.ble pc 117) (cond (Nat.beq pc 117) (some (.getfield 131, 3)) none) (cond (Nat.beq pc 120) (some (.bipush (-4), 2)) none))) (cond (Nat.ble pc 125) (cond (Nat.ble pc 122) (cond (Nat.beq pc 122) (some (.if_icmp .ne 174, 3)) none) (cond (Nat.beq pc 125) (some (.aload_n 0, 1)) none)) (cond (Nat.ble pc 126) (cond (Nat.beq pc 126) (some (.iconst 1, 1)) none) (cond (Nat.ble pc 127) (cond (Nat.beq pc 127) (some (.aload_n 0, 1)) none) (cond (Nat.beq pc 128) (some (.getfield 109, 3)) none))))) (cond (Nat.ble pc 139) (cond (Nat.ble pc 134) (cond (Nat.ble pc 131) (cond (Nat.beq pc 131) (some (.invokevirtual 134, 3)) none) (cond (Nat.beq pc 134) (some (.goto 162, 3)) none)) (cond (Nat.ble pc 137) (cond (Nat.beq pc 137) (some (.iload_n 1, 1)) none) (cond (Nat.ble pc 138) (cond (Nat.beq pc 138) (some (.i2l, 1)) none) (cond (Nat.beq pc 139) (some (.ldc2_w 138, 3)) none)))) (cond (Nat.ble pc 145) (cond (Nat.ble pc 142) (cond (Nat.beq pc 142) (some (.ldc2_w 140, 3)) none) (cond (Nat.beq pc 145) (some (.invokestatic 96, 3)) none)) (cond (Nat.ble pc 148) (cond (Nat.beq pc 148) (some (.ifCond .eq 115, 3)) none) (cond (Nat.ble pc 151) (cond (Nat.beq pc 151) (some (.aload_n 0, 1)) none) (cond (Nat.beq pc 152) (some (.iconst 2, 1)) none)))))))) (cond (Nat.ble pc 225) (cond (Nat.ble pc 188) (cond (Nat.ble pc 169) (cond (Nat.ble pc 158) (cond (Nat.ble pc 156) (cond (Nat.ble pc 153) (cond (Nat.beq pc 153) (some (.putfield 120, 3)) none) (cond (Nat.beq pc 156) (some (.aload_n 0, 1)) none)) (cond (Nat.ble pc 157) (cond (Nat.beq pc 157) (some (.iconst 0, 1)) none) (cond (Nat.beq pc 158) (some (.putfield 131, 3)) none))) (cond (Nat.ble pc 162) (cond (Nat.ble pc 161) (cond (Nat.beq pc 161) (some (.aload_n 0, 1)) none) (cond (Nat.beq pc 162) (some (.aload_n 0, 1)) none)) (cond (Nat.ble pc 163) (cond (Nat.beq pc 163) (some (.getfield 106, 3)) none) (cond (Nat.ble pc 166) (cond (Nat.beq pc 166) (some (.invokevirtual 112, 3)) none) (cond (Nat.beq pc 169) (some (.i2l, 1)) none))))) (cond (Nat.ble pc 179) (cond (Nat.ble pc 173) (cond (Nat.ble pc 170) (cond (Nat.beq pc 170) (some (.ldc2_w 138, 3)) none) (cond (Nat.beq pc 173) (some (.ldc2_w 140, 3)) none)) (cond (Nat.ble pc 176) (cond (Nat.beq pc 176) (some (.invokestatic 96, 3)) none) (cond (Nat.beq pc 179) (some (.ifCond .eq 59, 3)) none))) (cond (Nat.ble pc 183) (cond (Nat.ble pc 182) (cond (Nat.beq pc 182) (some (.aload_n 0, 1)) none) (cond (Nat.beq pc 183) (some (.aload_n 0, 1)) none)) (cond (Nat.ble pc 184) (cond (Nat.beq pc 184) (some (.getfield 106, 3)) none) (cond (Nat.ble pc 187) (cond (Nat.beq pc 187) (some (.aload_n 0, 1)) none) (cond (Nat.beq pc 188) (some (.getfield 109, 3)) none)))))) (cond (Nat.ble pc 204) (cond (Nat.ble pc 196) (cond (Nat.ble pc 192) (cond (Nat.ble pc 191) (cond (Nat.beq pc 191) (some (.isub, 1)) none) (cond (Nat.beq pc 192) (some (.iconst 4, 1)) none)) (cond (Nat.ble pc 193) (cond (Nat.beq pc 193) (some (.if_icmp .ge 25, 3)) none) (cond (Nat.beq pc 196) (some (.bipush 10, 2)) none))) (cond (Nat.ble pc 199) (cond (Nat.ble pc 198) (cond (Nat.beq pc 198) (some (.aload_n 0, 1)) none) (cond (Nat.beq pc 199) (some (.getfield 131, 3)) none)) (cond (Nat.ble pc 202) (cond (Nat.beq pc 202) (some (.imul, 1)) none) (cond (Nat.ble pc 203) (cond (Nat.beq pc 203) (some (.aload_n 0, 1)) none) (cond (Nat.beq pc 204) (some (.aload_n 0, 1)) none))))) (cond (Nat.ble pc 214) (cond (Nat.ble pc 208) (cond (Nat.ble pc 205) (cond (Nat.beq pc 205) (some (.getfield 106, 3)) none) (cond (Nat.beq pc 208) (some (.invokevirtual 112, 3)) none)) (cond (Nat.ble pc 211) (cond (Nat.beq pc 211) (some (.iadd, 1)) none) (cond (Nat.ble pc 212) (cond (Nat.beq pc 212) (some (.bipush 48, 2)) none) (cond (Nat.beq pc 214) (some (.isub, 1)) none)))) (cond (Nat.ble pc 218) (cond (Nat.ble pc 215) (cond (Nat.beq pc 215) (some (.goto 7, 3)) none) (cond (Nat.beq pc 218) (some (.aload_n 0, 1)) none)) (cond (Nat.ble pc 219) (cond (Nat.beq pc 219) (some (.getfield 131, 3)) none) (cond (Nat.ble pc 222) (cond (Nat.beq pc 222) (some (.putfield 131, 3)) none) (cond (Nat.beq pc 225) (some (.aload_n 0, 1)) none))))))) (cond (Nat.ble pc 260) (cond (Nat.ble pc 242) (cond (Nat.ble pc 231) (cond (Nat.ble pc 227) (cond (Nat.ble pc 226) (cond (Nat.beq pc 226) (some (.dup, 1)) none) (cond (Nat.beq pc 227) (some (.getfield 106, 3)) none)) (cond (Nat.ble pc 230) (cond (Nat.beq pc 230) (some (.iconst 1, 1)) none) (cond (Nat.beq pc 231) (some (.iadd, 1)) none))) (cond (Nat.ble pc 235) (cond (Nat.ble pc 232) (cond (Nat.beq pc 232) (some (.putfield 106, 3)) none) (cond (Nat.beq pc 235) (some (.goto (-74), 3)) none)) (cond (Nat.ble pc 238) (cond (Nat.beq pc 238) (some (.aload_n 0, 1)) none) (cond (Nat.ble pc 239) (cond (Nat.beq pc 239) (some (.getfield 106, 3)) none) (cond (Nat.beq pc 242) (some (.aload_n 0, 1)) none))))) (cond (Nat.ble pc 251) (cond (Nat.ble pc 246) (cond (Nat.ble pc 243) (cond (Nat.beq pc 243) (some (.getfield 109, 3)) none) (cond (Nat.beq pc 246) (some (.isub, 1)) none)) (cond (Nat.ble pc 247) (cond (Nat.beq pc 247) (some (.iconst 4, 1)) none) (cond (Nat.ble pc 248) (cond (Nat.beq pc 248) (some (.if_icmp .le 48, 3)) none) (cond (Nat.beq pc 251) (some (.aload_n 0, 1)) none)))) (cond (Nat.ble pc 253) (cond (Nat.ble pc 252) (cond (Nat.beq pc 252) (some (.iconst 1, 1)) none) (cond (Nat.beq pc 253) (some (.aload_n 0, 1)) none)) (cond (Nat.ble pc 254) (cond (Nat.beq pc 254) (some (.getfield 109, 3)) none) (cond (Nat.ble pc 257) (cond (Nat.beq pc 257) (some (.invokevirtual 134, 3)) none) (cond (Nat.beq pc 260) (some (.goto 36, 3)) none)))))) (cond (Nat.ble pc 276) (cond (Nat.ble pc 269) (cond (Nat.ble pc 264) (cond (Nat.ble pc 263) (cond (Nat.beq pc 263) (some (.iload_n 1, 1)) none) (cond (Nat.beq pc 264) (some (.bipush 59, 2)) none)) (cond (Nat.ble pc 266) (cond (Nat.beq pc 266) (some (.if_icmp .ne 21, 3)) none) (cond (Nat.beq pc 269) (some (.aload_n 0, 1)) none))) (cond (Nat.ble pc 271) (cond (Nat.ble pc 270) (cond (Nat.beq pc 270) (some (.iconst 3, 1)) none) (cond (Nat.beq pc 271) (some (.putfield 120, 3)) none)) (cond (Nat.ble pc 274) (cond (Nat.beq pc 274) (some (.aload_n 0, 1)) none) (cond (Nat.ble pc 275) (cond (Nat.beq pc 275) (some (.dup, 1)) none) (cond (Nat.beq pc 276) (some (.getfield 106, 3)) none))))) (cond (Nat.ble pc 287) (cond (Nat.ble pc 280) (cond (Nat.ble pc 279) (cond (Nat.beq pc 279) (some (.iconst 1, 1)) none) (cond (Nat.beq pc 280) (some (.iadd, 1)) none)) (cond (Nat.ble pc 281) (cond (Nat.beq pc 281) (some (.putfield 106, 3)) none) (cond (Nat.ble pc 284) (cond (Nat.beq pc 284) (some (.goto 12, 3)) none) (cond (Nat.beq pc 287) (some (.aload_n 0, 1)) none)))) (cond (Nat.ble pc 289) (cond (Nat.ble pc 288) (cond (Nat.beq pc 288) (some (.iconst 1, 1)) none) (cond (Nat.beq pc 289) (some (.aload_n 0, 1)) none)) (cond (Nat.ble pc 290) (cond (Nat.beq pc 290) (some (.getfield 109, 3)) none) (cond (Nat.ble pc 293) (cond (Nat.beq pc 293) (some (.invokevirtual 134, 3)) none) (cond (Nat.beq pc 296) (some (.return_, 1)) none))))))))
def q_gX9_wants (pc : Nat) : Option (Instr × Nat) := cond (Nat.ble pc 28) (cond (Nat.ble pc 12) (cond (Nat.ble pc 4) (cond (Nat.ble pc 0) (cond (Nat.beq pc 0) (some (.aload_n 0, 1)) none) (cond (Nat.ble pc 1) (cond (Nat.beq pc 1) (some (.getfield 100, 3)) none) (cond (Nat.beq pc 4) (some (.ifCond .ne 20, 3)) none))) (cond (Nat.ble pc 8) (cond (Nat.ble pc 7) (cond (Nat.beq pc 7) (some (.aload_n 0, 1)) none) (cond (Nat.beq pc 8) (some (.getfield 120, 3)) none)) (cond (Nat.ble pc 11) (cond (Nat.beq pc 11) (some (.iconst 2, 1)) none) (cond (Nat.beq pc 12) (some (.if_icmp .eq 12, 3)) none)))) (cond (Nat.ble pc 18) (cond (Nat.ble pc 16) (cond (Nat.ble pc 15) (cond (Nat.beq pc 15) (some (.aload_n 0, 1)) none) (cond (Nat.beq pc 16) (some (.iconst 2, 1)) none)) (cond (Nat.ble pc 17) (cond (Nat.beq pc 17) (some (.aload_n 0, 1)) none) (cond (Nat.beq pc 18) (some (.getfield 109, 3)) none))) (cond (Nat.ble pc 24) (cond (Nat.ble pc 21) (cond (Nat.beq pc 21) (some (.invokevirtual 134, 3)) none) (cond (Nat.beq pc 24) (some (.aload_n 0, 1)) none)) (cond (Nat.ble pc 25) (cond (Nat.beq pc 25) (some (.getfield 100, 3)) none) (cond (Nat.beq pc 28) (some (.ifCond .ne 27, 3)) none))))) (cond (Nat.ble pc 39) (cond (Nat.ble pc 35) (cond (Nat.ble pc 31) (cond (Nat.beq pc 31) (some (.aload_n 0, 1)) none) (cond (Nat.ble pc 32) (cond (Nat.beq pc 32) (some (.getfield 131, 3)) none) (cond (Nat.beq pc 35) (some (.i2l, 1)) none))) (cond (Nat.ble pc 37) (cond (Nat.ble pc 36) (cond (Nat.beq pc 36) (some (.iload_n 1, 1)) none) (cond (Nat.beq pc 37) (some (.i2l, 1)) none)) (cond (Nat.ble pc 38) (cond (Nat.beq pc 38) (some (.iload_n 2, 1)) none) (cond (Nat.beq pc 39) (some (.i2l, 1)) none)))) (cond (Nat.ble pc 47) (cond (Nat.ble pc 43) (cond (Nat.ble pc 40) (cond (Nat.beq pc 40) (some (.invokestatic 96, 3)) none) (cond (Nat.beq pc 43) (some (.ifCond .ne 12, 3)) none)) (cond (Nat.ble pc 46) (cond (Nat.beq pc 46) (some (.aload_n 0, 1)) none) (cond (Nat.beq pc 47) (some (.iconst 3, 1)) none))) (cond (Nat.ble pc 49) (cond (Nat.ble pc 48) (cond (Nat.beq pc 48) (some (.aload_n 0, 1)) none) (cond (Nat.beq pc 49) (some (.getfield 109, 3)) none)) (cond (Nat.ble pc 52) (cond (Nat.beq pc 52) (some (.invokevirtual 134, 3)) none) (cond (Nat.beq pc 55) (some (.return_, 1)) none)))))
def q_gX9_taken (pc : Nat) : Option (Instr × Nat) := cond (Nat.ble pc 6) (cond (Nat.ble pc 1) (cond (Nat.ble pc 0) (cond (Nat.beq pc 0) (some (.aload_n 0, 1)) none) (cond (Nat.beq pc 1) (some (.getfield 131, 3)) none)) (cond (Nat.ble pc 4) (cond (Nat.beq pc 4) (some (.istore_n 1, 1)) none) (cond (Nat.ble pc 5) (cond (Nat.beq pc 5) (some (.aload_n 0, 1)) none) (cond (Nat.beq pc 6) (some (.getfield 100, 3)) none)))) (cond (Nat.ble pc 12) (cond (Nat.ble pc 9) (cond (Nat.beq pc 9) (some (.ifCond .ne 7, 3)) none) (cond (Nat.beq pc 12) (some (.aload_n 0, 1)) none)) (cond (Nat.ble pc 13) (cond (Nat.beq pc 13) (some (.invokevirtual 142, 3)) none) (cond (Nat.ble pc 16) (cond (Nat.beq pc 16) (some (.iload_n 1, 1)) none) (cond (Nat.beq pc 17) (some (.ireturn, 1)) none))))
def q_gX9_readLaw (pc : Nat) : Option (Instr × Nat) := cond (Nat.ble pc 143) (cond (Nat.ble pc 70) (cond (Nat.ble pc 36) (cond (Nat.ble pc 16) (cond (Nat.ble pc 7) (cond (Nat.ble pc 1) (cond (Nat.ble pc 0) (cond (Nat.beq pc 0) (some (.aload_n 0, 1)) none) (cond (Nat.beq pc 1) (some (.getfield 100, 3)) none)) (cond (Nat.ble pc 4) (cond (Nat.beq pc 4) (some (.ifCond .ne 20, 3)) none) (cond (Nat.beq pc 7) (some (.aload_n 0, 1)) none))) (cond (Nat.ble pc 11) (cond (Nat.ble pc 8) (cond (Nat.beq pc 8) (some (.getfield 120, 3)) none) (cond (Nat.beq pc 11) (some (.iconst 1, 1)) none)) (cond (Nat.ble pc 12) (cond (Nat.beq pc 12) (some (.if_icmp .eq 12, 3)) none) (cond (Nat.ble pc 15) (cond (Nat.beq pc 15) (some (.aload_n 0, 1)) none) (cond (Nat.beq pc 16) (some (.iconst 2, 1)) none))))) (cond (Nat.ble pc 25) (cond (Nat.ble pc 18) (cond (Nat.ble pc 17) (cond (Nat.beq pc 17) (some (.aload_n 0, 1)) none) (cond (Nat.beq pc 18) (some (.getfield 109, 3)) none)) (cond (Nat.ble pc 21) (cond (Nat.beq pc 21) (some (.invokevirtual 134, 3)) none) (cond (Nat.ble pc 24) (cond (Nat.beq pc 24) (some (.aload_n 0, 1)) none) (cond (Nat.beq pc 25) (some (.getfield 100, 3)) none)))) (cond (Nat.ble pc 31) (cond (Nat.ble pc 28) (cond (Nat.beq pc 28) (some (.ifCond .le 4, 3)) none) (cond (Nat.beq pc 31) (some (.return_, 1)) none)) (cond (Nat.ble pc 32) (cond (Nat.beq pc 32) (some (.aload_n 0, 1)) none) (cond (Nat.ble pc 33) (cond (Nat.beq pc 33) (some (.getfield 131, 3)) none) (cond (Nat.beq pc 36) (some (.istore_n 1, 1)) none)))))) (cond (Nat.ble pc 53) (cond (Nat.ble pc 42) (cond (Nat.ble pc 38) (cond (Nat.ble pc 37) (cond (Nat.beq pc 37) (some (.iload_n 1, 1)) none) (cond (Nat.beq pc 38) (some (.iconst 4, 1)) none)) (cond (Nat.ble pc 39) (cond (Nat.beq pc 39) (some (.if_icmp .ne 14, 3)) none) (cond (Nat.beq pc 42) (some (.aload_n 0, 1)) none))) (cond (Nat.ble pc 46) (cond (Nat.ble pc 43) (cond (Nat.beq pc 43) (some (.getfield 145, 3)) none) (cond (Nat.beq pc 46) (some (.iconst 4, 1)) none)) (cond (Nat.ble pc 47) (cond (Nat.beq pc 47) (some (.if_icmp .ne 26, 3)) none) (cond (Nat.ble pc 50) (cond (Nat.beq pc 50) (some (.goto 14, 3)) none) (cond (Nat.beq pc 53) (some (.aload_n 0, 1)) none))))) (cond (Nat.ble pc 61) (cond (Nat.ble pc 57) (cond (Nat.ble pc 54) (cond (Nat.beq pc 54) (some (.getfield 22, 3)) none) (cond (Nat.beq pc 57) (some (.iload_n 1, 1)) none)) (cond (Nat.ble pc 58) (cond (Nat.beq pc 58) (some (.iaload, 1)) none) (cond (Nat.ble pc 59) (cond (Nat.beq pc 59) (some (.bipush (-4), 2)) none) (cond (Nat.beq pc 61) (some (.if_icmp .eq 12, 3)) none)))) (cond (Nat.ble pc 65) (cond (Nat.ble pc 64) (cond (Nat.beq pc 64) (some (.aload_n 0, 1)) none) (cond (Nat.beq pc 65) (some (.iconst 4, 1)) none)) (cond (Nat.ble pc 66) (cond (Nat.beq pc 66) (some (.aload_n 0, 1)) none) (cond (Nat.ble pc 67) (cond (Nat.beq pc 67) (some (.getfield 109, 3)) none) (cond (Nat.beq pc 70) (some (.invokevirtual 134, 3)) none))))))) (cond (Nat.ble pc 110) (cond (Nat.ble pc 89) (cond (Nat.ble pc 80) (cond (Nat.ble pc 74) (cond (Nat.ble pc 73) (cond (Nat.beq pc 73) (some (.aload_n 0, 1)) none) (cond (Nat.beq pc 74) (some (.getfield 100, 3)) none)) (cond (Nat.ble pc 77) (cond (Nat.beq pc 77) (some (.ifCond .ne 7, 3)) none) (cond (Nat.beq pc 80) (some (.aload_n 0, 1)) none))) (cond (Nat.ble pc 84) (cond (Nat.ble pc 81) (cond (Nat.beq pc 81) (some (.invokevirtual 142, 3)) none) (cond (Nat.beq pc 84) (some (.iload_n 1, 1)) none)) (cond (Nat.ble pc 85) (cond (Nat.beq pc 85) (some (.iconst 4, 1)) none) (cond (Nat.ble pc 86) (cond (Nat.beq pc 86) (some (.if_icmp .ne 109, 3)) none) (cond (Nat.beq pc 89) (some (.aload_n 0, 1)) none))))) (cond (Nat.ble pc 97) (cond (Nat.ble pc 91) (cond (Nat.ble pc 90) (cond (Nat.beq pc 90) (some (.iconst 0, 1)) none) (cond (Nat.beq pc 91) (some (.bipush 9, 2)) none)) (cond (Nat.ble pc 93) (cond (Nat.beq pc 93) (some (.invokevirtual 148, 3)) none) (cond (Nat.ble pc 96) (cond (Nat.beq pc 96) (some (.aload_n 0, 1)) none) (cond (Nat.beq pc 97) (some (.getfield 100, 3)) none)))) (cond (Nat.ble pc 103) (cond (Nat.ble pc 100) (cond (Nat.beq pc 100) (some (.ifCond .ne 37, 3)) none) (cond (Nat.beq pc 103) (some (.aload_n 0, 1)) none)) (cond (Nat.ble pc 104) (cond (Nat.beq pc 104) (some (.getfield 145, 3)) none) (cond (Nat.ble pc 107) (cond (Nat.beq pc 107) (some (.ifCond .le 30, 3)) none) (cond (Nat.beq pc 110) (some (.aload_n 0, 1)) none)))))) (cond (Nat.ble pc 125) (cond (Nat.ble pc 118) (cond (Nat.ble pc 114) (cond (Nat.ble pc 111) (cond (Nat.beq pc 111) (some (.getfield 131, 3)) none) (cond (Nat.beq pc 114) (some (.aload_n 0, 1)) none)) (cond (Nat.ble pc 115) (cond (Nat.beq pc 115) (some (.getfield 25, 3)) none) (cond (Nat.beq pc 118) (some (.aload_n 0, 1)) none))) (cond (Nat.ble pc 122) (cond (Nat.ble pc 119) (cond (Nat.beq pc 119) (some (.getfield 145, 3)) none) (cond (Nat.beq pc 122) (some (.iconst 1, 1)) none)) (cond (Nat.ble pc 123) (cond (Nat.beq pc 123) (some (.isub, 1)) none) (cond (Nat.ble pc 124) (cond (Nat.beq pc 124) (some (.iaload, 1)) none) (cond (Nat.beq pc 125) (some (.if_icmp .gt 12, 3)) none))))) (cond (Nat.ble pc 134) (cond (Nat.ble pc 129) (cond (Nat.ble pc 128) (cond (Nat.beq pc 128) (some (.aload_n 0, 1)) none) (cond (Nat.beq pc 129) (some (.iconst 5, 1)) none)) (cond (Nat.ble pc 130) (cond (Nat.beq pc 130) (some (.aload_n 0, 1)) none) (cond (Nat.ble pc 131) (cond (Nat.beq pc 131) (some (.getfield 109, 3)) none) (cond (Nat.beq pc 134) (some (.invokevirtual 134, 3)) none)))) (cond (Nat.ble pc 138) (cond (Nat.ble pc 137) (cond (Nat.beq pc 137) (some (.aload_n 0, 1)) none) (cond (Nat.beq pc 138) (some (.invokevirtual 151, 3)) none)) (cond (Nat.ble pc 141) (cond (Nat.beq pc 141) (some (.istore_n 2, 1)) none) (cond (Nat.ble pc 142) (cond (Nat.beq pc 142) (some (.aload_n 0, 1)) none) (cond (Nat.beq pc 143) (some (.iconst 0, 1)) none)))))))) (cond (Nat.ble pc 213) (cond (Nat.ble pc 180) (cond (Nat.ble pc 162) (cond (Nat.ble pc 151) (cond (Nat.ble pc 147) (cond (Nat.ble pc 144) (cond (Nat.beq pc 144) (some (.sipush 300, 3)) none) (cond (Nat.beq pc 147) (some (.invokevirtual 148, 3)) none)) (cond (Nat.ble pc 150) (cond (Nat.beq pc 150) (some (.aload_n 0, 1)) none) (cond (Nat.beq pc 151) (some (.invokevirtual 151, 3)) none))) (cond (Nat.ble pc 155) (cond (Nat.ble pc 154) (cond (Nat.beq pc 154) (some (.istore_n 3, 1)) none) (cond (Nat.beq pc 155) (some (.aload_n 0, 1)) none)) (cond (Nat.ble pc 156) (cond (Nat.beq pc 156) (some (.getfield 100, 3)) none) (cond (Nat.ble pc 159) (cond (Nat.beq pc 159) (some (.ifCond .ne 33, 3)) none) (cond (Nat.beq pc 162) (some (.aload_n 0, 1)) none))))) (cond (Nat.ble pc 171) (cond (Nat.ble pc 166) (cond (Nat.ble pc 163) (cond (Nat.beq pc 163) (some (.getfield 25, 3)) none) (cond (Nat.beq pc 166) (some (.aload_n 0, 1)) none)) (cond (Nat.ble pc 167) (cond (Nat.beq pc 167) (some (.getfield 145, 3)) none) (cond (Nat.ble pc 170) (cond (Nat.beq pc 170) (some (.iload_n 2, 1)) none) (cond (Nat.beq pc 171) (some (.iastore, 1)) none)))) (cond (Nat.ble pc 173) (cond (Nat.ble pc 172) (cond (Nat.beq pc 172) (some (.aload_n 0, 1)) none) (cond (Nat.beq pc 173) (some (.getfield 28, 3)) none)) (cond (Nat.ble pc 176) (cond (Nat.beq pc 176) (some (.aload_n 0, 1)) none) (cond (Nat.ble pc 177) (cond (Nat.beq pc 177) (some (.getfield 145, 3)) none) (cond (Nat.beq pc 180) (some (.iload_n 3, 1)) none)))))) (cond (Nat.ble pc 195) (cond (Nat.ble pc 184) (cond (Nat.ble pc 182) (cond (Nat.ble pc 181) (cond (Nat.beq pc 181) (some (.iastore, 1)) none) (cond (Nat.beq pc 182) (some (.aload_n 0, 1)) none)) (cond (Nat.ble pc 183) (cond (Nat.beq pc 183) (some (.dup, 1)) none) (cond (Nat.beq pc 184) (some (.getfield 145, 3)) none))) (cond (Nat.ble pc 188) (cond (Nat.ble pc 187) (cond (Nat.beq pc 187) (some (.iconst 1, 1)) none) (cond (Nat.beq pc 188) (some (.iadd, 1)) none)) (cond (Nat.ble pc 189) (cond (Nat.beq pc 189) (some (.putfield 145, 3)) none) (cond (Nat.ble pc 192) (cond (Nat.beq pc 192) (some (.goto 62, 3)) none) (cond (Nat.beq pc 195) (some (.aload_n 0, 1)) none))))) (cond (Nat.ble pc 202) (cond (Nat.ble pc 197) (cond (Nat.ble pc 196) (cond (Nat.beq pc 196) (some (.iload_n 1, 1)) none) (cond (Nat.beq pc 197) (some (.iconst 1, 1)) none)) (cond (Nat.ble pc 198) (cond (Nat.beq pc 198) (some (.if_icmp .ne 7, 3)) none) (cond (Nat.ble pc 201) (cond (Nat.beq pc 201) (some (.iconst 1, 1)) none) (cond (Nat.beq pc 202) (some (.goto 4, 3)) none)))) (cond (Nat.ble pc 206) (cond (Nat.ble pc 205) (cond (Nat.beq pc 205) (some (.iconst 0, 1)) none) (cond (Nat.beq pc 206) (some (.iload_n 1, 1)) none)) (cond (Nat.ble pc 207) (cond (Nat.beq pc 207) (some (.ifCond .ne 9, 3)) none) (cond (Nat.ble pc 210) (cond (Nat.beq pc 210) (some (.sipush 9999, 3)) none) (cond (Nat.beq pc 213) (some (.goto 26, 3)) none))))))) (cond (Nat.ble pc 252) (cond (Nat.ble pc 231) (cond (Nat.ble pc 221) (cond (Nat.ble pc 217) (cond (Nat.ble pc 216) (cond (Nat.beq pc 216) (some (.iload_n 1, 1)) none) (cond (Nat.beq pc 217) (some (.iconst 1, 1)) none)) (cond (Nat.ble pc 218) (cond (Nat.beq pc 218) (some (.if_icmp .ne 8, 3)) none) (cond (Nat.beq pc 221) (some (.bipush 20, 2)) none))) (cond (Nat.ble pc 226) (cond (Nat.ble pc 223) (cond (Nat.beq pc 223) (some (.goto 16, 3)) none) (cond (Nat.beq pc 226) (some (.iload_n 1, 1)) none)) (cond (Nat.ble pc 227) (cond (Nat.beq pc 227) (some (.iconst 2, 1)) none) (cond (Nat.ble pc 228) (cond (Nat.beq pc 228) (some (.if_icmp .ne 9, 3)) none) (cond (Nat.beq pc 231) (some (.sipush 999, 3)) none))))) (cond (Nat.ble pc 243) (cond (Nat.ble pc 237) (cond (Nat.ble pc 234) (cond (Nat.beq pc 234) (some (.goto 5, 3)) none) (cond (Nat.beq pc 237) (some (.bipush 100, 2)) none)) (cond (Nat.ble pc 239) (cond (Nat.beq pc 239) (some (.invokevirtual 148, 3)) none) (cond (Nat.ble pc 242) (cond (Nat.beq pc 242) (some (.aload_n 0, 1)) none) (cond (Nat.beq pc 243) (some (.invokevirtual 151, 3)) none)))) (cond (Nat.ble pc 247) (cond (Nat.ble pc 246) (cond (Nat.beq pc 246) (some (.istore_n 2, 1)) none) (cond (Nat.beq pc 247) (some (.aload_n 0, 1)) none)) (cond (Nat.ble pc 248) (cond (Nat.beq pc 248) (some (.getfield 22, 3)) none) (cond (Nat.ble pc 251) (cond (Nat.beq pc 251) (some (.iload_n 1, 1)) none) (cond (Nat.beq pc 252) (some (.iload_n 2, 1)) none)))))) (cond (Nat.ble pc 269) (cond (Nat.ble pc 258) (cond (Nat.ble pc 254) (cond (Nat.ble pc 253) (cond (Nat.beq pc 253) (some (.iastore, 1)) none) (cond (Nat.beq pc 254) (some (.aload_n 0, 1)) none)) (cond (Nat.ble pc 255) (cond (Nat.beq pc 255) (some (.getfield 100, 3)) none) (cond (Nat.beq pc 258) (some (.ifCond .ne 20, 3)) none))) (cond (Nat.ble pc 262) (cond (Nat.ble pc 261) (cond (Nat.beq pc 261) (some (.aload_n 0, 1)) none) (cond (Nat.beq pc 262) (some (.getfield 120, 3)) none)) (cond (Nat.ble pc 265) (cond (Nat.beq pc 265) (some (.iconst 3, 1)) none) (cond (Nat.ble pc 266) (cond (Nat.beq pc 266) (some (.if_icmp .eq 12, 3)) none) (cond (Nat.beq pc 269) (some (.aload_n 0, 1)) none))))) (cond (Nat.ble pc 278) (cond (Nat.ble pc 271) (cond (Nat.ble pc 270) (cond (Nat.beq pc 270) (some (.iconst 2, 1)) none) (cond (Nat.beq pc 271) (some (.aload_n 0, 1)) none)) (cond (Nat.ble pc 272) (cond (Nat.beq pc 272) (some (.getfield 109, 3)) none) (cond (Nat.ble pc 275) (cond (Nat.beq pc 275) (some (.invokevirtual 134, 3)) none) (cond (Nat.beq pc 278) (some (.aload_n 0, 1)) none)))) (cond (Nat.ble pc 282) (cond (Nat.ble pc 279) (cond (Nat.beq pc 279) (some (.getfield 100, 3)) none) (cond (Nat.beq pc 282) (some (.ifCond .ne 7, 3)) none)) (cond (Nat.ble pc 285) (cond (Nat.beq pc 285) (some (.aload_n 0, 1)) none) (cond (Nat.ble pc 286) (cond (Nat.beq pc 286) (some (.invokevirtual 142, 3)) none) (cond (Nat.beq pc 289) (some (.return_, 1)) none))))))))
def q_gX9_lawMany (pc : Nat) : Option (Instr × Nat) := cond (Nat.ble pc 17) (cond (Nat.ble pc 7) (cond (Nat.ble pc 4) (cond (Nat.ble pc 0) (cond (Nat.beq pc 0) (some (.aload_n 0, 1)) none) (cond (Nat.ble pc 1) (cond (Nat.beq pc 1) (some (.getfield 154, 3)) none) (cond (Nat.beq pc 4) (some (.istore_n 1, 1)) none))) (cond (Nat.ble pc 5) (cond (Nat.beq pc 5) (some (.iconst 0, 1)) none) (cond (Nat.ble pc 6) (cond (Nat.beq pc 6) (some (.istore_n 2, 1)) none) (cond (Nat.beq pc 7) (some (.iload_n 2, 1)) none)))) (cond (Nat.ble pc 12) (cond (Nat.ble pc 8) (cond (Nat.beq pc 8) (some (.iconst 4, 1)) none) (cond (Nat.ble pc 9) (cond (Nat.beq pc 9) (some (.if_icmp .ge 28, 3)) none) (cond (Nat.beq pc 12) (some (.iload_n 1, 1)) none))) (cond (Nat.ble pc 13) (cond (Nat.beq pc 13) (some (.aload_n 0, 1)) none) (cond (Nat.ble pc 14) (cond (Nat.beq pc 14) (some (.getfield 13, 3)) none) (cond (Nat.beq pc 17) (some (.iload_n 2, 1)) none))))) (cond (Nat.ble pc 28) (cond (Nat.ble pc 21) (cond (Nat.ble pc 18) (cond (Nat.beq pc 18) (some (.iaload, 1)) none) (cond (Nat.ble pc 19) (cond (Nat.beq pc 19) (some (.bipush (-4), 2)) none) (cond (Nat.beq pc 21) (some (.if_icmp .ne 7, 3)) none))) (cond (Nat.ble pc 24) (cond (Nat.beq pc 24) (some (.iconst 0, 1)) none) (cond (Nat.ble pc 25) (cond (Nat.beq pc 25) (some (.goto 4, 3)) none) (cond (Nat.beq pc 28) (some (.iconst 1, 1)) none)))) (cond (Nat.ble pc 31) (cond (Nat.ble pc 29) (cond (Nat.beq pc 29) (some (.iadd, 1)) none) (cond (Nat.ble pc 30) (cond (Nat.beq pc 30) (some (.istore_n 1, 1)) none) (cond (Nat.beq pc 31) (some (.iinc 2 1, 3)) none))) (cond (Nat.ble pc 34) (cond (Nat.beq pc 34) (some (.goto (-27), 3)) none) (cond (Nat.ble pc 37) (cond (Nat.beq pc 37) (some (.iload_n 1, 1)) none) (cond (Nat.beq pc 38) (some (.ireturn, 1)) none)))))
def q_gX9_laws (pc : Nat) : Option (Instr × Nat) := cond (Nat.ble pc 75) (cond (Nat.ble pc 30) (cond (Nat.ble pc 15) (cond (Nat.ble pc 6) (cond (Nat.ble pc 1) (cond (Nat.ble pc 0) (cond (Nat.beq pc 0) (some (.aload_n 0, 1)) none) (cond (Nat.beq pc 1) (some (.iconst 0, 1)) none)) (cond (Nat.ble pc 2) (cond (Nat.beq pc 2) (some (.putfield 100, 3)) none) (cond (Nat.ble pc 5) (cond (Nat.beq pc 5) (some (.aload_n 0, 1)) none) (cond (Nat.beq pc 6) (some (.iconst 0, 1)) none)))) (cond (Nat.ble pc 10) (cond (Nat.ble pc 7) (cond (Nat.beq pc 7) (some (.putfield 106, 3)) none) (cond (Nat.beq pc 10) (some (.aload_n 0, 1)) none)) (cond (Nat.ble pc 11) (cond (Nat.beq pc 11) (some (.iconst 0, 1)) none) (cond (Nat.ble pc 12) (cond (Nat.beq pc 12) (some (.putfield 145, 3)) none) (cond (Nat.beq pc 15) (some (.iconst 0, 1)) none))))) (cond (Nat.ble pc 22) (cond (Nat.ble pc 17) (cond (Nat.ble pc 16) (cond (Nat.beq pc 16) (some (.istore_n 1, 1)) none) (cond (Nat.beq pc 17) (some (.iload_n 1, 1)) none)) (cond (Nat.ble pc 18) (cond (Nat.beq pc 18) (some (.iconst 4, 1)) none) (cond (Nat.ble pc 19) (cond (Nat.beq pc 19) (some (.if_icmp .ge 17, 3)) none) (cond (Nat.beq pc 22) (some (.aload_n 0, 1)) none)))) (cond (Nat.ble pc 26) (cond (Nat.ble pc 23) (cond (Nat.beq pc 23) (some (.getfield 22, 3)) none) (cond (Nat.beq pc 26) (some (.iload_n 1, 1)) none)) (cond (Nat.ble pc 27) (cond (Nat.beq pc 27) (some (.bipush (-4), 2)) none) (cond (Nat.ble pc 29) (cond (Nat.beq pc 29) (some (.iastore, 1)) none) (cond (Nat.beq pc 30) (some (.iinc 1 1, 3)) none)))))) (cond (Nat.ble pc 54) (cond (Nat.ble pc 41) (cond (Nat.ble pc 36) (cond (Nat.ble pc 33) (cond (Nat.beq pc 33) (some (.goto (-16), 3)) none) (cond (Nat.beq pc 36) (some (.aload_n 0, 1)) none)) (cond (Nat.ble pc 37) (cond (Nat.beq pc 37) (some (.invokevirtual 142, 3)) none) (cond (Nat.ble pc 40) (cond (Nat.beq pc 40) (some (.aload_n 0, 1)) none) (cond (Nat.beq pc 41) (some (.getfield 100, 3)) none)))) (cond (Nat.ble pc 47) (cond (Nat.ble pc 44) (cond (Nat.beq pc 44) (some (.ifCond .ne 17, 3)) none) (cond (Nat.beq pc 47) (some (.aload_n 0, 1)) none)) (cond (Nat.ble pc 48) (cond (Nat.beq pc 48) (some (.getfield 120, 3)) none) (cond (Nat.ble pc 51) (cond (Nat.beq pc 51) (some (.ifCond .eq 10, 3)) none) (cond (Nat.beq pc 54) (some (.aload_n 0, 1)) none))))) (cond (Nat.ble pc 63) (cond (Nat.ble pc 58) (cond (Nat.ble pc 55) (cond (Nat.beq pc 55) (some (.invokevirtual 157, 3)) none) (cond (Nat.beq pc 58) (some (.goto (-18), 3)) none)) (cond (Nat.ble pc 61) (cond (Nat.beq pc 61) (some (.aload_n 0, 1)) none) (cond (Nat.ble pc 62) (cond (Nat.beq pc 62) (some (.iconst 0, 1)) none) (cond (Nat.beq pc 63) (some (.putfield 90, 3)) none)))) (cond (Nat.ble pc 67) (cond (Nat.ble pc 66) (cond (Nat.beq pc 66) (some (.aload_n 0, 1)) none) (cond (Nat.beq pc 67) (some (.getfield 100, 3)) none)) (cond (Nat.ble pc 70) (cond (Nat.beq pc 70) (some (.ifCond .le 11, 3)) none) (cond (Nat.ble pc 73) (cond (Nat.beq pc 73) (some (.bipush (-10), 2)) none) (cond (Nat.beq pc 75) (some (.aload_n 0, 1)) none))))))) (cond (Nat.ble pc 107) (cond (Nat.ble pc 91) (cond (Nat.ble pc 82) (cond (Nat.ble pc 79) (cond (Nat.ble pc 76) (cond (Nat.beq pc 76) (some (.getfield 103, 3)) none) (cond (Nat.beq pc 79) (some (.isub, 1)) none)) (cond (Nat.ble pc 80) (cond (Nat.beq pc 80) (some (.ireturn, 1)) none) (cond (Nat.ble pc 81) (cond (Nat.beq pc 81) (some (.aload_n 0, 1)) none) (cond (Nat.beq pc 82) (some (.aload_n 0, 1)) none)))) (cond (Nat.ble pc 86) (cond (Nat.ble pc 83) (cond (Nat.beq pc 83) (some (.getfield 145, 3)) none) (cond (Nat.beq pc 86) (some (.putfield 154, 3)) none)) (cond (Nat.ble pc 89) (cond (Nat.beq pc 89) (some (.iconst 0, 1)) none) (cond (Nat.ble pc 90) (cond (Nat.beq pc 90) (some (.istore_n 1, 1)) none) (cond (Nat.beq pc 91) (some (.iload_n 1, 1)) none))))) (cond (Nat.ble pc 100) (cond (Nat.ble pc 93) (cond (Nat.ble pc 92) (cond (Nat.beq pc 92) (some (.iconst 4, 1)) none) (cond (Nat.beq pc 93) (some (.if_icmp .ge 45, 3)) none)) (cond (Nat.ble pc 96) (cond (Nat.beq pc 96) (some (.aload_n 0, 1)) none) (cond (Nat.ble pc 97) (cond (Nat.beq pc 97) (some (.getfield 13, 3)) none) (cond (Nat.beq pc 100) (some (.iload_n 1, 1)) none)))) (cond (Nat.ble pc 102) (cond (Nat.ble pc 101) (cond (Nat.beq pc 101) (some (.aload_n 0, 1)) none) (cond (Nat.beq pc 102) (some (.getfield 22, 3)) none)) (cond (Nat.ble pc 105) (cond (Nat.beq pc 105) (some (.iload_n 1, 1)) none) (cond (Nat.ble pc 106) (cond (Nat.beq pc 106) (some (.iaload, 1)) none) (cond (Nat.beq pc 107) (some (.iastore, 1)) none)))))) (cond (Nat.ble pc 121) (cond (Nat.ble pc 114) (cond (Nat.ble pc 109) (cond (Nat.ble pc 108) (cond (Nat.beq pc 108) (some (.aload_n 0, 1)) none) (cond (Nat.beq pc 109) (some (.getfield 16, 3)) none)) (cond (Nat.ble pc 112) (cond (Nat.beq pc 112) (some (.iload_n 1, 1)) none) (cond (Nat.ble pc 113) (cond (Nat.beq pc 113) (some (.aload_n 0, 1)) none) (cond (Nat.beq pc 114) (some (.getfield 25, 3)) none)))) (cond (Nat.ble pc 118) (cond (Nat.ble pc 117) (cond (Nat.beq pc 117) (some (.iload_n 1, 1)) none) (cond (Nat.beq pc 118) (some (.iaload, 1)) none)) (cond (Nat.ble pc 119) (cond (Nat.beq pc 119) (some (.iastore, 1)) none) (cond (Nat.ble pc 120) (cond (Nat.beq pc 120) (some (.aload_n 0, 1)) none) (cond (Nat.beq pc 121) (some (.getfield 19, 3)) none))))) (cond (Nat.ble pc 130) (cond (Nat.ble pc 125) (cond (Nat.ble pc 124) (cond (Nat.beq pc 124) (some (.iload_n 1, 1)) none) (cond (Nat.beq pc 125) (some (.aload_n 0, 1)) none)) (cond (Nat.ble pc 126) (cond (Nat.beq pc 126) (some (.getfield 28, 3)) none) (cond (Nat.ble pc 129) (cond (Nat.beq pc 129) (some (.iload_n 1, 1)) none) (cond (Nat.beq pc 130) (some (.iaload, 1)) none)))) (cond (Nat.ble pc 135) (cond (Nat.ble pc 131) (cond (Nat.beq pc 131) (some (.iastore, 1)) none) (cond (Nat.ble pc 132) (cond (Nat.beq pc 132) (some (.iinc 1 1, 3)) none) (cond (Nat.beq pc 135) (some (.goto (-44), 3)) none))) (cond (Nat.ble pc 138) (cond (Nat.beq pc 138) (some (.aload_n 0, 1)) none) (cond (Nat.ble pc 139) (cond (Nat.beq pc 139) (some (.invokevirtual 160, 3)) none) (cond (Nat.beq pc 142) (some (.ireturn, 1)) none)))))))
def q_gX9_fault (pc : Nat) : Option (Instr × Nat) := cond (Nat.ble pc 0) (cond (Nat.beq pc 0) (some (.aload_n 0, 1)) none) (cond (Nat.ble pc 1) (cond (Nat.beq pc 1) (some (.getfield 100, 3)) none) (cond (Nat.beq pc 4) (some (.ireturn, 1)) none))
def q_gX9_poundage (pc : Nat) : Option (Instr × Nat) := cond (Nat.ble pc 15) (cond (Nat.ble pc 4) (cond (Nat.ble pc 1) (cond (Nat.ble pc 0) (cond (Nat.beq pc 0) (some (.iconst 0, 1)) none) (cond (Nat.beq pc 1) (some (.istore_n 2, 1)) none)) (cond (Nat.ble pc 2) (cond (Nat.beq pc 2) (some (.iload_n 2, 1)) none) (cond (Nat.ble pc 3) (cond (Nat.beq pc 3) (some (.aload_n 0, 1)) none) (cond (Nat.beq pc 4) (some (.getfield 154, 3)) none)))) (cond (Nat.ble pc 10) (cond (Nat.ble pc 7) (cond (Nat.beq pc 7) (some (.if_icmp .ge 26, 3)) none) (cond (Nat.beq pc 10) (some (.aload_n 0, 1)) none)) (cond (Nat.ble pc 11) (cond (Nat.beq pc 11) (some (.getfield 16, 3)) none) (cond (Nat.ble pc 14) (cond (Nat.beq pc 14) (some (.iload_n 2, 1)) none) (cond (Nat.beq pc 15) (some (.iaload, 1)) none))))) (cond (Nat.ble pc 24) (cond (Nat.ble pc 17) (cond (Nat.ble pc 16) (cond (Nat.beq pc 16) (some (.iload_n 1, 1)) none) (cond (Nat.beq pc 17) (some (.if_icmp .lt 10, 3)) none)) (cond (Nat.ble pc 20) (cond (Nat.beq pc 20) (some (.aload_n 0, 1)) none) (cond (Nat.ble pc 21) (cond (Nat.beq pc 21) (some (.getfield 19, 3)) none) (cond (Nat.beq pc 24) (some (.iload_n 2, 1)) none)))) (cond (Nat.ble pc 27) (cond (Nat.ble pc 25) (cond (Nat.beq pc 25) (some (.iaload, 1)) none) (cond (Nat.ble pc 26) (cond (Nat.beq pc 26) (some (.ireturn, 1)) none) (cond (Nat.beq pc 27) (some (.iinc 2 1, 3)) none))) (cond (Nat.ble pc 30) (cond (Nat.beq pc 30) (some (.goto (-28), 3)) none) (cond (Nat.ble pc 33) (cond (Nat.beq pc 33) (some (.iconst 0, 1)) none) (cond (Nat.beq pc 34) (some (.ireturn, 1)) none)))))
def q_gX9_lawOf (pc : Nat) : Option (Instr × Nat) := cond (Nat.ble pc 12) (cond (Nat.ble pc 5) (cond (Nat.ble pc 1) (cond (Nat.ble pc 0) (cond (Nat.beq pc 0) (some (.aload_n 0, 1)) none) (cond (Nat.beq pc 1) (some (.getfield 13, 3)) none)) (cond (Nat.ble pc 4) (cond (Nat.beq pc 4) (some (.iload_n 1, 1)) none) (cond (Nat.beq pc 5) (some (.iaload, 1)) none))) (cond (Nat.ble pc 8) (cond (Nat.ble pc 6) (cond (Nat.beq pc 6) (some (.bipush (-4), 2)) none) (cond (Nat.beq pc 8) (some (.if_icmp .ne 12, 3)) none)) (cond (Nat.ble pc 11) (cond (Nat.beq pc 11) (some (.iload_n 1, 1)) none) (cond (Nat.beq pc 12) (some (.iconst 1, 1)) none)))) (cond (Nat.ble pc 20) (cond (Nat.ble pc 16) (cond (Nat.ble pc 13) (cond (Nat.beq pc 13) (some (.if_icmp .le 7, 3)) none) (cond (Nat.beq pc 16) (some (.iconst 0, 1)) none)) (cond (Nat.ble pc 17) (cond (Nat.beq pc 17) (some (.goto 9, 3)) none) (cond (Nat.beq pc 20) (some (.aload_n 0, 1)) none))) (cond (Nat.ble pc 24) (cond (Nat.ble pc 21) (cond (Nat.beq pc 21) (some (.getfield 13, 3)) none) (cond (Nat.beq pc 24) (some (.iload_n 1, 1)) none)) (cond (Nat.ble pc 25) (cond (Nat.beq pc 25) (some (.iaload, 1)) none) (cond (Nat.beq pc 26) (some (.ireturn, 1)) none))))
def q_gX9_law (pc : Nat) : Option (Instr × Nat) := cond (Nat.ble pc 21) (cond (Nat.ble pc 9) (cond (Nat.ble pc 2) (cond (Nat.ble pc 0) (cond (Nat.beq pc 0) (some (.iload_n 1, 1)) none) (cond (Nat.ble pc 1) (cond (Nat.beq pc 1) (some (.i2l, 1)) none) (cond (Nat.beq pc 2) (some (.lconst 0, 1)) none))) (cond (Nat.ble pc 3) (cond (Nat.beq pc 3) (some (.ldc2_w 163, 3)) none) (cond (Nat.ble pc 6) (cond (Nat.beq pc 6) (some (.invokestatic 96, 3)) none) (cond (Nat.beq pc 9) (some (.ifCond .eq 11, 3)) none)))) (cond (Nat.ble pc 14) (cond (Nat.ble pc 12) (cond (Nat.beq pc 12) (some (.aload_n 0, 1)) none) (cond (Nat.ble pc 13) (cond (Nat.beq pc 13) (some (.iload_n 1, 1)) none) (cond (Nat.beq pc 14) (some (.invokevirtual 165, 3)) none))) (cond (Nat.ble pc 17) (cond (Nat.beq pc 17) (some (.goto 29, 3)) none) (cond (Nat.ble pc 20) (cond (Nat.beq pc 20) (some (.iload_n 1, 1)) none) (cond (Nat.beq pc 21) (some (.i2l, 1)) none))))) (cond (Nat.ble pc 35) (cond (Nat.ble pc 28) (cond (Nat.ble pc 22) (cond (Nat.beq pc 22) (some (.ldc2_w 168, 3)) none) (cond (Nat.ble pc 25) (cond (Nat.beq pc 25) (some (.ldc2_w 170, 3)) none) (cond (Nat.beq pc 28) (some (.invokestatic 96, 3)) none))) (cond (Nat.ble pc 31) (cond (Nat.beq pc 31) (some (.ifCond .eq 14, 3)) none) (cond (Nat.ble pc 34) (cond (Nat.beq pc 34) (some (.aload_n 0, 1)) none) (cond (Nat.beq pc 35) (some (.iload_n 1, 1)) none)))) (cond (Nat.ble pc 39) (cond (Nat.ble pc 36) (cond (Nat.beq pc 36) (some (.bipush 10, 2)) none) (cond (Nat.ble pc 38) (cond (Nat.beq pc 38) (some (.isub, 1)) none) (cond (Nat.beq pc 39) (some (.invokevirtual 172, 3)) none))) (cond (Nat.ble pc 42) (cond (Nat.beq pc 42) (some (.goto 4, 3)) none) (cond (Nat.ble pc 45) (cond (Nat.beq pc 45) (some (.iconst (-1), 1)) none) (cond (Nat.beq pc 46) (some (.ireturn, 1)) none)))))
def q_gX9_isFace (pc : Nat) : Option (Instr × Nat) := cond (Nat.ble pc 13) (cond (Nat.ble pc 3) (cond (Nat.ble pc 1) (cond (Nat.ble pc 0) (cond (Nat.beq pc 0) (some (.iload_n 0, 1)) none) (cond (Nat.beq pc 1) (some (.i2l, 1)) none)) (cond (Nat.ble pc 2) (cond (Nat.beq pc 2) (some (.lconst 0, 1)) none) (cond (Nat.beq pc 3) (some (.ldc2_w 175, 3)) none))) (cond (Nat.ble pc 9) (cond (Nat.ble pc 6) (cond (Nat.beq pc 6) (some (.invokestatic 96, 3)) none) (cond (Nat.beq pc 9) (some (.ifCond .eq 19, 3)) none)) (cond (Nat.ble pc 12) (cond (Nat.beq pc 12) (some (.iload_n 1, 1)) none) (cond (Nat.beq pc 13) (some (.i2l, 1)) none)))) (cond (Nat.ble pc 21) (cond (Nat.ble pc 15) (cond (Nat.ble pc 14) (cond (Nat.beq pc 14) (some (.lconst 0, 1)) none) (cond (Nat.beq pc 15) (some (.ldc2_w 177, 3)) none)) (cond (Nat.ble pc 18) (cond (Nat.beq pc 18) (some (.invokestatic 96, 3)) none) (cond (Nat.beq pc 21) (some (.ifCond .eq 7, 3)) none))) (cond (Nat.ble pc 25) (cond (Nat.ble pc 24) (cond (Nat.beq pc 24) (some (.iconst 1, 1)) none) (cond (Nat.beq pc 25) (some (.goto 4, 3)) none)) (cond (Nat.ble pc 28) (cond (Nat.beq pc 28) (some (.iconst 0, 1)) none) (cond (Nat.beq pc 29) (some (.ireturn, 1)) none))))
def q_gX9_isGang (pc : Nat) : Option (Instr × Nat) := cond (Nat.ble pc 4) (cond (Nat.ble pc 1) (cond (Nat.ble pc 0) (cond (Nat.beq pc 0) (some (.iload_n 1, 1)) none) (cond (Nat.beq pc 1) (some (.i2l, 1)) none)) (cond (Nat.ble pc 2) (cond (Nat.beq pc 2) (some (.lconst 0, 1)) none) (cond (Nat.ble pc 3) (cond (Nat.beq pc 3) (some (.aload_n 0, 1)) none) (cond (Nat.beq pc 4) (some (.getfield 179, 3)) none)))) (cond (Nat.ble pc 8) (cond (Nat.ble pc 7) (cond (Nat.beq pc 7) (some (.iconst 1, 1)) none) (cond (Nat.beq pc 8) (some (.isub, 1)) none)) (cond (Nat.ble pc 9) (cond (Nat.beq pc 9) (some (.i2l, 1)) none) (cond (Nat.ble pc 10) (cond (Nat.beq pc 10) (some (.invokestatic 96, 3)) none) (cond (Nat.beq pc 13) (some (.ireturn, 1)) none))))
def q_gX9_rock (pc : Nat) : Option (Instr × Nat) := cond (Nat.ble pc 28) (cond (Nat.ble pc 11) (cond (Nat.ble pc 5) (cond (Nat.ble pc 1) (cond (Nat.ble pc 0) (cond (Nat.beq pc 0) (some (.iload_n 1, 1)) none) (cond (Nat.beq pc 1) (some (.iload_n 2, 1)) none)) (cond (Nat.ble pc 2) (cond (Nat.beq pc 2) (some (.invokestatic 182, 3)) none) (cond (Nat.beq pc 5) (some (.ifCond .eq 15, 3)) none))) (cond (Nat.ble pc 9) (cond (Nat.ble pc 8) (cond (Nat.beq pc 8) (some (.iload_n 3, 1)) none) (cond (Nat.beq pc 9) (some (.i2l, 1)) none)) (cond (Nat.ble pc 10) (cond (Nat.beq pc 10) (some (.lconst 0, 1)) none) (cond (Nat.beq pc 11) (some (.ldc2_w 186, 3)) none)))) (cond (Nat.ble pc 21) (cond (Nat.ble pc 17) (cond (Nat.ble pc 14) (cond (Nat.beq pc 14) (some (.invokestatic 96, 3)) none) (cond (Nat.beq pc 17) (some (.ifCond .ne 5, 3)) none)) (cond (Nat.ble pc 20) (cond (Nat.beq pc 20) (some (.iconst (-1), 1)) none) (cond (Nat.beq pc 21) (some (.ireturn, 1)) none))) (cond (Nat.ble pc 23) (cond (Nat.ble pc 22) (cond (Nat.beq pc 22) (some (.aload_n 0, 1)) none) (cond (Nat.beq pc 23) (some (.getfield 31, 3)) none)) (cond (Nat.ble pc 26) (cond (Nat.beq pc 26) (some (.bipush 6, 2)) none) (cond (Nat.beq pc 28) (some (.iload_n 1, 1)) none))))) (cond (Nat.ble pc 39) (cond (Nat.ble pc 32) (cond (Nat.ble pc 30) (cond (Nat.ble pc 29) (cond (Nat.beq pc 29) (some (.imul, 1)) none) (cond (Nat.beq pc 30) (some (.iload_n 2, 1)) none)) (cond (Nat.ble pc 31) (cond (Nat.beq pc 31) (some (.iadd, 1)) none) (cond (Nat.beq pc 32) (some (.iaload, 1)) none))) (cond (Nat.ble pc 35) (cond (Nat.ble pc 33) (cond (Nat.beq pc 33) (some (.istore 4, 2)) none) (cond (Nat.beq pc 35) (some (.aload_n 0, 1)) none)) (cond (Nat.ble pc 36) (cond (Nat.beq pc 36) (some (.getfield 31, 3)) none) (cond (Nat.beq pc 39) (some (.bipush 6, 2)) none)))) (cond (Nat.ble pc 44) (cond (Nat.ble pc 42) (cond (Nat.ble pc 41) (cond (Nat.beq pc 41) (some (.iload_n 1, 1)) none) (cond (Nat.beq pc 42) (some (.imul, 1)) none)) (cond (Nat.ble pc 43) (cond (Nat.beq pc 43) (some (.iload_n 2, 1)) none) (cond (Nat.beq pc 44) (some (.iadd, 1)) none))) (cond (Nat.ble pc 46) (cond (Nat.ble pc 45) (cond (Nat.beq pc 45) (some (.iload_n 3, 1)) none) (cond (Nat.beq pc 46) (some (.iastore, 1)) none)) (cond (Nat.ble pc 47) (cond (Nat.beq pc 47) (some (.iload 4, 2)) none) (cond (Nat.beq pc 49) (some (.ireturn, 1)) none)))))
def q_gX9_mayBeWorked (pc : Nat) : Option (Instr × Nat) := cond (Nat.ble pc 15) (cond (Nat.ble pc 4) (cond (Nat.ble pc 1) (cond (Nat.ble pc 0) (cond (Nat.beq pc 0) (some (.iconst 1, 1)) none) (cond (Nat.beq pc 1) (some (.istore_n 2, 1)) none)) (cond (Nat.ble pc 2) (cond (Nat.beq pc 2) (some (.iload_n 1, 1)) none) (cond (Nat.ble pc 3) (cond (Nat.beq pc 3) (some (.istore_n 3, 1)) none) (cond (Nat.beq pc 4) (some (.iload_n 3, 1)) none)))) (cond (Nat.ble pc 10) (cond (Nat.ble pc 5) (cond (Nat.beq pc 5) (some (.bipush 30, 2)) none) (cond (Nat.ble pc 7) (cond (Nat.beq pc 7) (some (.if_icmp .ge 28, 3)) none) (cond (Nat.beq pc 10) (some (.iload_n 2, 1)) none))) (cond (Nat.ble pc 11) (cond (Nat.beq pc 11) (some (.ifCond .eq 16, 3)) none) (cond (Nat.ble pc 14) (cond (Nat.beq pc 14) (some (.aload_n 0, 1)) none) (cond (Nat.beq pc 15) (some (.getfield 37, 3)) none))))) (cond (Nat.ble pc 24) (cond (Nat.ble pc 19) (cond (Nat.ble pc 18) (cond (Nat.beq pc 18) (some (.iload_n 3, 1)) none) (cond (Nat.beq pc 19) (some (.baload, 1)) none)) (cond (Nat.ble pc 20) (cond (Nat.beq pc 20) (some (.ifCond .ne 7, 3)) none) (cond (Nat.ble pc 23) (cond (Nat.beq pc 23) (some (.iconst 1, 1)) none) (cond (Nat.beq pc 24) (some (.goto 4, 3)) none)))) (cond (Nat.ble pc 29) (cond (Nat.ble pc 27) (cond (Nat.beq pc 27) (some (.iconst 0, 1)) none) (cond (Nat.ble pc 28) (cond (Nat.beq pc 28) (some (.istore_n 2, 1)) none) (cond (Nat.beq pc 29) (some (.iinc 3 6, 3)) none))) (cond (Nat.ble pc 32) (cond (Nat.beq pc 32) (some (.goto (-28), 3)) none) (cond (Nat.ble pc 35) (cond (Nat.beq pc 35) (some (.iload_n 2, 1)) none) (cond (Nat.beq pc 36) (some (.ireturn, 1)) none)))))
def q_gX9_face (pc : Nat) : Option (Instr × Nat) := cond (Nat.ble pc 50) (cond (Nat.ble pc 25) (cond (Nat.ble pc 10) (cond (Nat.ble pc 2) (cond (Nat.ble pc 0) (cond (Nat.beq pc 0) (some (.iload_n 1, 1)) none) (cond (Nat.ble pc 1) (cond (Nat.beq pc 1) (some (.iload_n 2, 1)) none) (cond (Nat.beq pc 2) (some (.invokestatic 182, 3)) none))) (cond (Nat.ble pc 8) (cond (Nat.ble pc 5) (cond (Nat.beq pc 5) (some (.ifCond .eq 15, 3)) none) (cond (Nat.beq pc 8) (some (.iload_n 3, 1)) none)) (cond (Nat.ble pc 9) (cond (Nat.beq pc 9) (some (.i2l, 1)) none) (cond (Nat.beq pc 10) (some (.lconst 0, 1)) none)))) (cond (Nat.ble pc 20) (cond (Nat.ble pc 14) (cond (Nat.ble pc 11) (cond (Nat.beq pc 11) (some (.ldc2_w 175, 3)) none) (cond (Nat.beq pc 14) (some (.invokestatic 96, 3)) none)) (cond (Nat.ble pc 17) (cond (Nat.beq pc 17) (some (.ifCond .ne 5, 3)) none) (cond (Nat.beq pc 20) (some (.iconst (-1), 1)) none))) (cond (Nat.ble pc 22) (cond (Nat.ble pc 21) (cond (Nat.beq pc 21) (some (.ireturn, 1)) none) (cond (Nat.beq pc 22) (some (.bipush 6, 2)) none)) (cond (Nat.ble pc 24) (cond (Nat.beq pc 24) (some (.iload_n 1, 1)) none) (cond (Nat.beq pc 25) (some (.imul, 1)) none))))) (cond (Nat.ble pc 35) (cond (Nat.ble pc 28) (cond (Nat.ble pc 26) (cond (Nat.beq pc 26) (some (.iload_n 2, 1)) none) (cond (Nat.ble pc 27) (cond (Nat.beq pc 27) (some (.iadd, 1)) none) (cond (Nat.beq pc 28) (some (.istore 4, 2)) none))) (cond (Nat.ble pc 31) (cond (Nat.ble pc 30) (cond (Nat.beq pc 30) (some (.iload_n 3, 1)) none) (cond (Nat.beq pc 31) (some (.ifCond .ne 13, 3)) none)) (cond (Nat.ble pc 34) (cond (Nat.beq pc 34) (some (.aload_n 0, 1)) none) (cond (Nat.beq pc 35) (some (.getfield 31, 3)) none)))) (cond (Nat.ble pc 44) (cond (Nat.ble pc 40) (cond (Nat.ble pc 38) (cond (Nat.beq pc 38) (some (.iload 4, 2)) none) (cond (Nat.beq pc 40) (some (.iaload, 1)) none)) (cond (Nat.ble pc 41) (cond (Nat.beq pc 41) (some (.goto 70, 3)) none) (cond (Nat.beq pc 44) (some (.iload_n 3, 1)) none))) (cond (Nat.ble pc 46) (cond (Nat.ble pc 45) (cond (Nat.beq pc 45) (some (.iconst 1, 1)) none) (cond (Nat.beq pc 46) (some (.if_icmp .ne 13, 3)) none)) (cond (Nat.ble pc 49) (cond (Nat.beq pc 49) (some (.aload_n 0, 1)) none) (cond (Nat.beq pc 50) (some (.getfield 34, 3)) none)))))) (cond (Nat.ble pc 79) (cond (Nat.ble pc 64) (cond (Nat.ble pc 56) (cond (Nat.ble pc 53) (cond (Nat.beq pc 53) (some (.iload 4, 2)) none) (cond (Nat.ble pc 55) (cond (Nat.beq pc 55) (some (.iaload, 1)) none) (cond (Nat.beq pc 56) (some (.goto 55, 3)) none))) (cond (Nat.ble pc 60) (cond (Nat.ble pc 59) (cond (Nat.beq pc 59) (some (.iload_n 3, 1)) none) (cond (Nat.beq pc 60) (some (.iconst 2, 1)) none)) (cond (Nat.ble pc 61) (cond (Nat.beq pc 61) (some (.if_icmp .ne 21, 3)) none) (cond (Nat.beq pc 64) (some (.aload_n 0, 1)) none)))) (cond (Nat.ble pc 71) (cond (Nat.ble pc 68) (cond (Nat.ble pc 65) (cond (Nat.beq pc 65) (some (.getfield 37, 3)) none) (cond (Nat.beq pc 68) (some (.iload 4, 2)) none)) (cond (Nat.ble pc 70) (cond (Nat.beq pc 70) (some (.baload, 1)) none) (cond (Nat.beq pc 71) (some (.ifCond .eq 7, 3)) none))) (cond (Nat.ble pc 75) (cond (Nat.ble pc 74) (cond (Nat.beq pc 74) (some (.iconst 1, 1)) none) (cond (Nat.beq pc 75) (some (.goto 36, 3)) none)) (cond (Nat.ble pc 78) (cond (Nat.beq pc 78) (some (.iconst 0, 1)) none) (cond (Nat.beq pc 79) (some (.goto 32, 3)) none))))) (cond (Nat.ble pc 96) (cond (Nat.ble pc 87) (cond (Nat.ble pc 83) (cond (Nat.ble pc 82) (cond (Nat.beq pc 82) (some (.iload_n 3, 1)) none) (cond (Nat.beq pc 83) (some (.iconst 3, 1)) none)) (cond (Nat.ble pc 84) (cond (Nat.beq pc 84) (some (.if_icmp .ne 20, 3)) none) (cond (Nat.beq pc 87) (some (.aload_n 0, 1)) none))) (cond (Nat.ble pc 90) (cond (Nat.ble pc 88) (cond (Nat.beq pc 88) (some (.iload 4, 2)) none) (cond (Nat.beq pc 90) (some (.invokevirtual 188, 3)) none)) (cond (Nat.ble pc 93) (cond (Nat.beq pc 93) (some (.ifCond .eq 7, 3)) none) (cond (Nat.beq pc 96) (some (.iconst 1, 1)) none)))) (cond (Nat.ble pc 104) (cond (Nat.ble pc 100) (cond (Nat.ble pc 97) (cond (Nat.beq pc 97) (some (.goto 14, 3)) none) (cond (Nat.beq pc 100) (some (.iconst 0, 1)) none)) (cond (Nat.ble pc 101) (cond (Nat.beq pc 101) (some (.goto 10, 3)) none) (cond (Nat.beq pc 104) (some (.aload_n 0, 1)) none))) (cond (Nat.ble pc 108) (cond (Nat.ble pc 105) (cond (Nat.beq pc 105) (some (.getfield 41, 3)) none) (cond (Nat.beq pc 108) (some (.iload 4, 2)) none)) (cond (Nat.ble pc 110) (cond (Nat.beq pc 110) (some (.iaload, 1)) none) (cond (Nat.beq pc 111) (some (.ireturn, 1)) none))))))
def q_gX9_clear (pc : Nat) : Option (Instr × Nat) := cond (Nat.ble pc 35) (cond (Nat.ble pc 18) (cond (Nat.ble pc 8) (cond (Nat.ble pc 1) (cond (Nat.ble pc 0) (cond (Nat.beq pc 0) (some (.iload_n 1, 1)) none) (cond (Nat.beq pc 1) (some (.iload_n 2, 1)) none)) (cond (Nat.ble pc 2) (cond (Nat.beq pc 2) (some (.invokestatic 182, 3)) none) (cond (Nat.ble pc 5) (cond (Nat.beq pc 5) (some (.ifCond .eq 11, 3)) none) (cond (Nat.beq pc 8) (some (.aload_n 0, 1)) none)))) (cond (Nat.ble pc 13) (cond (Nat.ble pc 9) (cond (Nat.beq pc 9) (some (.iload_n 3, 1)) none) (cond (Nat.ble pc 10) (cond (Nat.beq pc 10) (some (.invokevirtual 192, 3)) none) (cond (Nat.beq pc 13) (some (.ifCond .ne 5, 3)) none))) (cond (Nat.ble pc 16) (cond (Nat.beq pc 16) (some (.iconst (-1), 1)) none) (cond (Nat.ble pc 17) (cond (Nat.beq pc 17) (some (.ireturn, 1)) none) (cond (Nat.beq pc 18) (some (.aload_n 0, 1)) none))))) (cond (Nat.ble pc 26) (cond (Nat.ble pc 22) (cond (Nat.ble pc 19) (cond (Nat.beq pc 19) (some (.getfield 37, 3)) none) (cond (Nat.beq pc 22) (some (.bipush 6, 2)) none)) (cond (Nat.ble pc 24) (cond (Nat.beq pc 24) (some (.iload_n 1, 1)) none) (cond (Nat.ble pc 25) (cond (Nat.beq pc 25) (some (.imul, 1)) none) (cond (Nat.beq pc 26) (some (.iload_n 2, 1)) none)))) (cond (Nat.ble pc 29) (cond (Nat.ble pc 27) (cond (Nat.beq pc 27) (some (.iadd, 1)) none) (cond (Nat.ble pc 28) (cond (Nat.beq pc 28) (some (.baload, 1)) none) (cond (Nat.beq pc 29) (some (.ifCond .ne 6, 3)) none))) (cond (Nat.ble pc 32) (cond (Nat.beq pc 32) (some (.bipush (-2), 2)) none) (cond (Nat.ble pc 34) (cond (Nat.beq pc 34) (some (.ireturn, 1)) none) (cond (Nat.beq pc 35) (some (.aload_n 0, 1)) none)))))) (cond (Nat.ble pc 51) (cond (Nat.ble pc 43) (cond (Nat.ble pc 39) (cond (Nat.ble pc 36) (cond (Nat.beq pc 36) (some (.getfield 37, 3)) none) (cond (Nat.beq pc 39) (some (.bipush 6, 2)) none)) (cond (Nat.ble pc 41) (cond (Nat.beq pc 41) (some (.iload_n 1, 1)) none) (cond (Nat.ble pc 42) (cond (Nat.beq pc 42) (some (.imul, 1)) none) (cond (Nat.beq pc 43) (some (.iload_n 2, 1)) none)))) (cond (Nat.ble pc 46) (cond (Nat.ble pc 44) (cond (Nat.beq pc 44) (some (.iadd, 1)) none) (cond (Nat.ble pc 45) (cond (Nat.beq pc 45) (some (.iconst 0, 1)) none) (cond (Nat.beq pc 46) (some (.bastore, 1)) none))) (cond (Nat.ble pc 47) (cond (Nat.beq pc 47) (some (.aload_n 0, 1)) none) (cond (Nat.ble pc 48) (cond (Nat.beq pc 48) (some (.getfield 47, 3)) none) (cond (Nat.beq pc 51) (some (.iload_n 3, 1)) none))))) (cond (Nat.ble pc 60) (cond (Nat.ble pc 54) (cond (Nat.ble pc 52) (cond (Nat.beq pc 52) (some (.dup2, 1)) none) (cond (Nat.ble pc 53) (cond (Nat.beq pc 53) (some (.iaload, 1)) none) (cond (Nat.beq pc 54) (some (.bipush 20, 2)) none))) (cond (Nat.ble pc 56) (cond (Nat.beq pc 56) (some (.aload_n 0, 1)) none) (cond (Nat.ble pc 57) (cond (Nat.beq pc 57) (some (.getfield 44, 3)) none) (cond (Nat.beq pc 60) (some (.iload_n 3, 1)) none)))) (cond (Nat.ble pc 63) (cond (Nat.ble pc 61) (cond (Nat.beq pc 61) (some (.iaload, 1)) none) (cond (Nat.ble pc 62) (cond (Nat.beq pc 62) (some (.imul, 1)) none) (cond (Nat.beq pc 63) (some (.iadd, 1)) none))) (cond (Nat.ble pc 64) (cond (Nat.beq pc 64) (some (.iastore, 1)) none) (cond (Nat.ble pc 65) (cond (Nat.beq pc 65) (some (.iconst 1, 1)) none) (cond (Nat.beq pc 66) (some (.ireturn, 1)) none))))))
def q_gX9_gang (pc : Nat) : Option (Instr × Nat) := cond (Nat.ble pc 31) (cond (Nat.ble pc 14) (cond (Nat.ble pc 3) (cond (Nat.ble pc 1) (cond (Nat.ble pc 0) (cond (Nat.beq pc 0) (some (.iload_n 1, 1)) none) (cond (Nat.beq pc 1) (some (.i2l, 1)) none)) (cond (Nat.ble pc 2) (cond (Nat.beq pc 2) (some (.lconst 1, 1)) none) (cond (Nat.beq pc 3) (some (.ldc2_w 195, 3)) none))) (cond (Nat.ble pc 9) (cond (Nat.ble pc 6) (cond (Nat.beq pc 6) (some (.invokestatic 96, 3)) none) (cond (Nat.beq pc 9) (some (.ifCond .ne 5, 3)) none)) (cond (Nat.ble pc 12) (cond (Nat.beq pc 12) (some (.iconst (-1), 1)) none) (cond (Nat.ble pc 13) (cond (Nat.beq pc 13) (some (.ireturn, 1)) none) (cond (Nat.beq pc 14) (some (.aload_n 0, 1)) none))))) (cond (Nat.ble pc 23) (cond (Nat.ble pc 18) (cond (Nat.ble pc 15) (cond (Nat.beq pc 15) (some (.getfield 179, 3)) none) (cond (Nat.beq pc 18) (some (.bipush 8, 2)) none)) (cond (Nat.ble pc 20) (cond (Nat.beq pc 20) (some (.if_icmp .ne 6, 3)) none) (cond (Nat.beq pc 23) (some (.bipush (-3), 2)) none))) (cond (Nat.ble pc 26) (cond (Nat.ble pc 25) (cond (Nat.beq pc 25) (some (.ireturn, 1)) none) (cond (Nat.beq pc 26) (some (.aload_n 0, 1)) none)) (cond (Nat.ble pc 27) (cond (Nat.beq pc 27) (some (.getfield 44, 3)) none) (cond (Nat.ble pc 30) (cond (Nat.beq pc 30) (some (.aload_n 0, 1)) none) (cond (Nat.beq pc 31) (some (.getfield 179, 3)) none)))))) (cond (Nat.ble pc 47) (cond (Nat.ble pc 37) (cond (Nat.ble pc 35) (cond (Nat.ble pc 34) (cond (Nat.beq pc 34) (some (.iload_n 1, 1)) none) (cond (Nat.beq pc 35) (some (.iastore, 1)) none)) (cond (Nat.ble pc 36) (cond (Nat.beq pc 36) (some (.aload_n 0, 1)) none) (cond (Nat.beq pc 37) (some (.getfield 53, 3)) none))) (cond (Nat.ble pc 41) (cond (Nat.ble pc 40) (cond (Nat.beq pc 40) (some (.aload_n 0, 1)) none) (cond (Nat.beq pc 41) (some (.getfield 179, 3)) none)) (cond (Nat.ble pc 44) (cond (Nat.beq pc 44) (some (.bipush (-4), 2)) none) (cond (Nat.ble pc 46) (cond (Nat.beq pc 46) (some (.iastore, 1)) none) (cond (Nat.beq pc 47) (some (.aload_n 0, 1)) none))))) (cond (Nat.ble pc 54) (cond (Nat.ble pc 49) (cond (Nat.ble pc 48) (cond (Nat.beq pc 48) (some (.dup, 1)) none) (cond (Nat.beq pc 49) (some (.getfield 179, 3)) none)) (cond (Nat.ble pc 52) (cond (Nat.beq pc 52) (some (.iconst 1, 1)) none) (cond (Nat.ble pc 53) (cond (Nat.beq pc 53) (some (.iadd, 1)) none) (cond (Nat.beq pc 54) (some (.putfield 179, 3)) none)))) (cond (Nat.ble pc 58) (cond (Nat.ble pc 57) (cond (Nat.beq pc 57) (some (.aload_n 0, 1)) none) (cond (Nat.beq pc 58) (some (.getfield 179, 3)) none)) (cond (Nat.ble pc 61) (cond (Nat.beq pc 61) (some (.iconst 1, 1)) none) (cond (Nat.ble pc 62) (cond (Nat.beq pc 62) (some (.isub, 1)) none) (cond (Nat.beq pc 63) (some (.ireturn, 1)) none))))))
def q_gX9_told (pc : Nat) : Option (Instr × Nat) := cond (Nat.ble pc 75) (cond (Nat.ble pc 23) (cond (Nat.ble pc 9) (cond (Nat.ble pc 2) (cond (Nat.ble pc 0) (cond (Nat.beq pc 0) (some (.aload_n 0, 1)) none) (cond (Nat.ble pc 1) (cond (Nat.beq pc 1) (some (.iload_n 1, 1)) none) (cond (Nat.beq pc 2) (some (.invokevirtual 192, 3)) none))) (cond (Nat.ble pc 5) (cond (Nat.beq pc 5) (some (.ifCond .eq 15, 3)) none) (cond (Nat.ble pc 8) (cond (Nat.beq pc 8) (some (.iload_n 2, 1)) none) (cond (Nat.beq pc 9) (some (.i2l, 1)) none)))) (cond (Nat.ble pc 14) (cond (Nat.ble pc 10) (cond (Nat.beq pc 10) (some (.lconst 0, 1)) none) (cond (Nat.ble pc 11) (cond (Nat.beq pc 11) (some (.ldc2_w 177, 3)) none) (cond (Nat.beq pc 14) (some (.invokestatic 96, 3)) none))) (cond (Nat.ble pc 20) (cond (Nat.ble pc 17) (cond (Nat.beq pc 17) (some (.ifCond .ne 6, 3)) none) (cond (Nat.beq pc 20) (some (.ldc 197, 2)) none)) (cond (Nat.ble pc 22) (cond (Nat.beq pc 22) (some (.ireturn, 1)) none) (cond (Nat.beq pc 23) (some (.iload_n 2, 1)) none))))) (cond (Nat.ble pc 66) (cond (Nat.ble pc 61) (cond (Nat.ble pc 24) (cond (Nat.beq pc 24) (some (.tableswitch 86 0 4 #[36, 43, 50, 57, 64], 36)) none) (cond (Nat.ble pc 60) (cond (Nat.beq pc 60) (some (.aload_n 0, 1)) none) (cond (Nat.beq pc 61) (some (.getfield 44, 3)) none))) (cond (Nat.ble pc 64) (cond (Nat.beq pc 64) (some (.iload_n 1, 1)) none) (cond (Nat.ble pc 65) (cond (Nat.beq pc 65) (some (.iaload, 1)) none) (cond (Nat.beq pc 66) (some (.ireturn, 1)) none)))) (cond (Nat.ble pc 71) (cond (Nat.ble pc 67) (cond (Nat.beq pc 67) (some (.aload_n 0, 1)) none) (cond (Nat.ble pc 68) (cond (Nat.beq pc 68) (some (.getfield 47, 3)) none) (cond (Nat.beq pc 71) (some (.iload_n 1, 1)) none))) (cond (Nat.ble pc 73) (cond (Nat.ble pc 72) (cond (Nat.beq pc 72) (some (.iaload, 1)) none) (cond (Nat.beq pc 73) (some (.ireturn, 1)) none)) (cond (Nat.ble pc 74) (cond (Nat.beq pc 74) (some (.aload_n 0, 1)) none) (cond (Nat.beq pc 75) (some (.getfield 50, 3)) none)))))) (cond (Nat.ble pc 94) (cond (Nat.ble pc 85) (cond (Nat.ble pc 80) (cond (Nat.ble pc 78) (cond (Nat.beq pc 78) (some (.iload_n 1, 1)) none) (cond (Nat.ble pc 79) (cond (Nat.beq pc 79) (some (.iaload, 1)) none) (cond (Nat.beq pc 80) (some (.ireturn, 1)) none))) (cond (Nat.ble pc 81) (cond (Nat.beq pc 81) (some (.aload_n 0, 1)) none) (cond (Nat.ble pc 82) (cond (Nat.beq pc 82) (some (.getfield 53, 3)) none) (cond (Nat.beq pc 85) (some (.iload_n 1, 1)) none)))) (cond (Nat.ble pc 88) (cond (Nat.ble pc 86) (cond (Nat.beq pc 86) (some (.iaload, 1)) none) (cond (Nat.ble pc 87) (cond (Nat.beq pc 87) (some (.ireturn, 1)) none) (cond (Nat.beq pc 88) (some (.aload_n 0, 1)) none))) (cond (Nat.ble pc 92) (cond (Nat.ble pc 89) (cond (Nat.beq pc 89) (some (.getfield 53, 3)) none) (cond (Nat.beq pc 92) (some (.iload_n 1, 1)) none)) (cond (Nat.ble pc 93) (cond (Nat.beq pc 93) (some (.iaload, 1)) none) (cond (Nat.beq pc 94) (some (.bipush (-4), 2)) none))))) (cond (Nat.ble pc 107) (cond (Nat.ble pc 100) (cond (Nat.ble pc 96) (cond (Nat.beq pc 96) (some (.if_icmp .ne 7, 3)) none) (cond (Nat.ble pc 99) (cond (Nat.beq pc 99) (some (.iconst 0, 1)) none) (cond (Nat.beq pc 100) (some (.goto 9, 3)) none))) (cond (Nat.ble pc 103) (cond (Nat.beq pc 103) (some (.aload_n 0, 1)) none) (cond (Nat.ble pc 104) (cond (Nat.beq pc 104) (some (.getfield 56, 3)) none) (cond (Nat.beq pc 107) (some (.iload_n 1, 1)) none)))) (cond (Nat.ble pc 110) (cond (Nat.ble pc 108) (cond (Nat.beq pc 108) (some (.iaload, 1)) none) (cond (Nat.ble pc 109) (cond (Nat.beq pc 109) (some (.ireturn, 1)) none) (cond (Nat.beq pc 110) (some (.aload_n 0, 1)) none))) (cond (Nat.ble pc 114) (cond (Nat.ble pc 111) (cond (Nat.beq pc 111) (some (.getfield 59, 3)) none) (cond (Nat.beq pc 114) (some (.iload_n 1, 1)) none)) (cond (Nat.ble pc 115) (cond (Nat.beq pc 115) (some (.iaload, 1)) none) (cond (Nat.beq pc 116) (some (.ireturn, 1)) none))))))
def q_gX9_move (pc : Nat) : Option (Instr × Nat) := cond (Nat.ble pc 92) (cond (Nat.ble pc 45) (cond (Nat.ble pc 23) (cond (Nat.ble pc 10) (cond (Nat.ble pc 2) (cond (Nat.ble pc 0) (cond (Nat.beq pc 0) (some (.aload_n 0, 1)) none) (cond (Nat.ble pc 1) (cond (Nat.beq pc 1) (some (.iload_n 1, 1)) none) (cond (Nat.beq pc 2) (some (.invokevirtual 192, 3)) none))) (cond (Nat.ble pc 8) (cond (Nat.ble pc 5) (cond (Nat.beq pc 5) (some (.ifCond .eq 47, 3)) none) (cond (Nat.beq pc 8) (some (.aload_n 0, 1)) none)) (cond (Nat.ble pc 9) (cond (Nat.beq pc 9) (some (.iload_n 2, 1)) none) (cond (Nat.beq pc 10) (some (.invokevirtual 192, 3)) none)))) (cond (Nat.ble pc 17) (cond (Nat.ble pc 13) (cond (Nat.beq pc 13) (some (.ifCond .eq 39, 3)) none) (cond (Nat.ble pc 16) (cond (Nat.beq pc 16) (some (.iload_n 1, 1)) none) (cond (Nat.beq pc 17) (some (.iload_n 2, 1)) none))) (cond (Nat.ble pc 21) (cond (Nat.ble pc 18) (cond (Nat.beq pc 18) (some (.if_icmp .eq 34, 3)) none) (cond (Nat.beq pc 21) (some (.iload_n 3, 1)) none)) (cond (Nat.ble pc 22) (cond (Nat.beq pc 22) (some (.i2l, 1)) none) (cond (Nat.beq pc 23) (some (.lconst 1, 1)) none))))) (cond (Nat.ble pc 32) (cond (Nat.ble pc 28) (cond (Nat.ble pc 24) (cond (Nat.beq pc 24) (some (.aload_n 0, 1)) none) (cond (Nat.ble pc 25) (cond (Nat.beq pc 25) (some (.getfield 44, 3)) none) (cond (Nat.beq pc 28) (some (.iload_n 1, 1)) none))) (cond (Nat.ble pc 30) (cond (Nat.ble pc 29) (cond (Nat.beq pc 29) (some (.iaload, 1)) none) (cond (Nat.beq pc 30) (some (.iconst 1, 1)) none)) (cond (Nat.ble pc 31) (cond (Nat.beq pc 31) (some (.isub, 1)) none) (cond (Nat.beq pc 32) (some (.i2l, 1)) none)))) (cond (Nat.ble pc 39) (cond (Nat.ble pc 33) (cond (Nat.beq pc 33) (some (.invokestatic 96, 3)) none) (cond (Nat.ble pc 36) (cond (Nat.beq pc 36) (some (.ifCond .eq 16, 3)) none) (cond (Nat.beq pc 39) (some (.aload_n 0, 1)) none))) (cond (Nat.ble pc 43) (cond (Nat.ble pc 40) (cond (Nat.beq pc 40) (some (.getfield 44, 3)) none) (cond (Nat.beq pc 43) (some (.iload_n 2, 1)) none)) (cond (Nat.ble pc 44) (cond (Nat.beq pc 44) (some (.iaload, 1)) none) (cond (Nat.beq pc 45) (some (.iload_n 3, 1)) none)))))) (cond (Nat.ble pc 70) (cond (Nat.ble pc 56) (cond (Nat.ble pc 49) (cond (Nat.ble pc 46) (cond (Nat.beq pc 46) (some (.iadd, 1)) none) (cond (Nat.ble pc 47) (cond (Nat.beq pc 47) (some (.bipush 6, 2)) none) (cond (Nat.beq pc 49) (some (.if_icmp .le 6, 3)) none))) (cond (Nat.ble pc 54) (cond (Nat.ble pc 52) (cond (Nat.beq pc 52) (some (.ldc 197, 2)) none) (cond (Nat.beq pc 54) (some (.ireturn, 1)) none)) (cond (Nat.ble pc 55) (cond (Nat.beq pc 55) (some (.aload_n 0, 1)) none) (cond (Nat.beq pc 56) (some (.getfield 53, 3)) none)))) (cond (Nat.ble pc 61) (cond (Nat.ble pc 59) (cond (Nat.beq pc 59) (some (.iload_n 1, 1)) none) (cond (Nat.ble pc 60) (cond (Nat.beq pc 60) (some (.iaload, 1)) none) (cond (Nat.beq pc 61) (some (.bipush (-4), 2)) none))) (cond (Nat.ble pc 66) (cond (Nat.ble pc 63) (cond (Nat.beq pc 63) (some (.if_icmp .ne 14, 3)) none) (cond (Nat.beq pc 66) (some (.aload_n 0, 1)) none)) (cond (Nat.ble pc 67) (cond (Nat.beq pc 67) (some (.getfield 53, 3)) none) (cond (Nat.beq pc 70) (some (.iload_n 2, 1)) none))))) (cond (Nat.ble pc 81) (cond (Nat.ble pc 74) (cond (Nat.ble pc 71) (cond (Nat.beq pc 71) (some (.iaload, 1)) none) (cond (Nat.ble pc 72) (cond (Nat.beq pc 72) (some (.bipush (-4), 2)) none) (cond (Nat.beq pc 74) (some (.if_icmp .eq 6, 3)) none))) (cond (Nat.ble pc 79) (cond (Nat.ble pc 77) (cond (Nat.beq pc 77) (some (.ldc 198, 2)) none) (cond (Nat.beq pc 79) (some (.ireturn, 1)) none)) (cond (Nat.ble pc 80) (cond (Nat.beq pc 80) (some (.iload_n 3, 1)) none) (cond (Nat.beq pc 81) (some (.i2l, 1)) none)))) (cond (Nat.ble pc 87) (cond (Nat.ble pc 83) (cond (Nat.ble pc 82) (cond (Nat.beq pc 82) (some (.aload_n 0, 1)) none) (cond (Nat.beq pc 83) (some (.getfield 47, 3)) none)) (cond (Nat.ble pc 86) (cond (Nat.beq pc 86) (some (.iload_n 1, 1)) none) (cond (Nat.beq pc 87) (some (.iaload, 1)) none))) (cond (Nat.ble pc 89) (cond (Nat.ble pc 88) (cond (Nat.beq pc 88) (some (.i2l, 1)) none) (cond (Nat.beq pc 89) (some (.lmul, 1)) none)) (cond (Nat.ble pc 90) (cond (Nat.beq pc 90) (some (.lstore 4, 2)) none) (cond (Nat.beq pc 92) (some (.lload 4, 2)) none))))))) (cond (Nat.ble pc 137) (cond (Nat.ble pc 113) (cond (Nat.ble pc 102) (cond (Nat.ble pc 98) (cond (Nat.ble pc 94) (cond (Nat.beq pc 94) (some (.aload_n 0, 1)) none) (cond (Nat.ble pc 95) (cond (Nat.beq pc 95) (some (.getfield 44, 3)) none) (cond (Nat.beq pc 98) (some (.iload_n 1, 1)) none))) (cond (Nat.ble pc 100) (cond (Nat.ble pc 99) (cond (Nat.beq pc 99) (some (.iaload, 1)) none) (cond (Nat.beq pc 100) (some (.i2l, 1)) none)) (cond (Nat.ble pc 101) (cond (Nat.beq pc 101) (some (.ldiv, 1)) none) (cond (Nat.beq pc 102) (some (.lstore 6, 2)) none)))) (cond (Nat.ble pc 107) (cond (Nat.ble pc 104) (cond (Nat.beq pc 104) (some (.lload 4, 2)) none) (cond (Nat.ble pc 106) (cond (Nat.beq pc 106) (some (.aload_n 0, 1)) none) (cond (Nat.beq pc 107) (some (.getfield 44, 3)) none))) (cond (Nat.ble pc 111) (cond (Nat.ble pc 110) (cond (Nat.beq pc 110) (some (.iload_n 1, 1)) none) (cond (Nat.beq pc 111) (some (.iaload, 1)) none)) (cond (Nat.ble pc 112) (cond (Nat.beq pc 112) (some (.i2l, 1)) none) (cond (Nat.beq pc 113) (some (.lrem, 1)) none))))) (cond (Nat.ble pc 123) (cond (Nat.ble pc 116) (cond (Nat.ble pc 114) (cond (Nat.beq pc 114) (some (.lconst 0, 1)) none) (cond (Nat.ble pc 115) (cond (Nat.beq pc 115) (some (.lcmp, 1)) none) (cond (Nat.beq pc 116) (some (.ifCond .ge 10, 3)) none))) (cond (Nat.ble pc 121) (cond (Nat.ble pc 119) (cond (Nat.beq pc 119) (some (.lload 6, 2)) none) (cond (Nat.beq pc 121) (some (.lconst 1, 1)) none)) (cond (Nat.ble pc 122) (cond (Nat.beq pc 122) (some (.lsub, 1)) none) (cond (Nat.beq pc 123) (some (.goto 5, 3)) none)))) (cond (Nat.ble pc 131) (cond (Nat.ble pc 128) (cond (Nat.ble pc 126) (cond (Nat.beq pc 126) (some (.lload 6, 2)) none) (cond (Nat.beq pc 128) (some (.l2i, 1)) none)) (cond (Nat.ble pc 129) (cond (Nat.beq pc 129) (some (.istore 8, 2)) none) (cond (Nat.beq pc 131) (some (.aload_n 0, 1)) none))) (cond (Nat.ble pc 135) (cond (Nat.ble pc 132) (cond (Nat.beq pc 132) (some (.getfield 47, 3)) none) (cond (Nat.beq pc 135) (some (.iload_n 1, 1)) none)) (cond (Nat.ble pc 136) (cond (Nat.beq pc 136) (some (.dup2, 1)) none) (cond (Nat.beq pc 137) (some (.iaload, 1)) none)))))) (cond (Nat.ble pc 157) (cond (Nat.ble pc 147) (cond (Nat.ble pc 141) (cond (Nat.ble pc 138) (cond (Nat.beq pc 138) (some (.iload 8, 2)) none) (cond (Nat.ble pc 140) (cond (Nat.beq pc 140) (some (.isub, 1)) none) (cond (Nat.beq pc 141) (some (.iastore, 1)) none))) (cond (Nat.ble pc 143) (cond (Nat.ble pc 142) (cond (Nat.beq pc 142) (some (.aload_n 0, 1)) none) (cond (Nat.beq pc 143) (some (.getfield 47, 3)) none)) (cond (Nat.ble pc 146) (cond (Nat.beq pc 146) (some (.iload_n 2, 1)) none) (cond (Nat.beq pc 147) (some (.dup2, 1)) none)))) (cond (Nat.ble pc 151) (cond (Nat.ble pc 148) (cond (Nat.beq pc 148) (some (.iaload, 1)) none) (cond (Nat.ble pc 149) (cond (Nat.beq pc 149) (some (.iload 8, 2)) none) (cond (Nat.beq pc 151) (some (.iadd, 1)) none))) (cond (Nat.ble pc 153) (cond (Nat.ble pc 152) (cond (Nat.beq pc 152) (some (.iastore, 1)) none) (cond (Nat.beq pc 153) (some (.aload_n 0, 1)) none)) (cond (Nat.ble pc 154) (cond (Nat.beq pc 154) (some (.getfield 44, 3)) none) (cond (Nat.beq pc 157) (some (.iload_n 1, 1)) none))))) (cond (Nat.ble pc 164) (cond (Nat.ble pc 160) (cond (Nat.ble pc 158) (cond (Nat.beq pc 158) (some (.dup2, 1)) none) (cond (Nat.ble pc 159) (cond (Nat.beq pc 159) (some (.iaload, 1)) none) (cond (Nat.beq pc 160) (some (.iload_n 3, 1)) none))) (cond (Nat.ble pc 162) (cond (Nat.ble pc 161) (cond (Nat.beq pc 161) (some (.isub, 1)) none) (cond (Nat.beq pc 162) (some (.iastore, 1)) none)) (cond (Nat.ble pc 163) (cond (Nat.beq pc 163) (some (.aload_n 0, 1)) none) (cond (Nat.beq pc 164) (some (.getfield 44, 3)) none)))) (cond (Nat.ble pc 170) (cond (Nat.ble pc 168) (cond (Nat.ble pc 167) (cond (Nat.beq pc 167) (some (.iload_n 2, 1)) none) (cond (Nat.beq pc 168) (some (.dup2, 1)) none)) (cond (Nat.ble pc 169) (cond (Nat.beq pc 169) (some (.iaload, 1)) none) (cond (Nat.beq pc 170) (some (.iload_n 3, 1)) none))) (cond (Nat.ble pc 172) (cond (Nat.ble pc 171) (cond (Nat.beq pc 171) (some (.iadd, 1)) none) (cond (Nat.beq pc 172) (some (.iastore, 1)) none)) (cond (Nat.ble pc 173) (cond (Nat.beq pc 173) (some (.iload 8, 2)) none) (cond (Nat.beq pc 175) (some (.ireturn, 1)) none)))))))
def q_gX9_askMany (pc : Nat) : Option (Instr × Nat) := cond (Nat.ble pc 16) (cond (Nat.ble pc 4) (cond (Nat.ble pc 1) (cond (Nat.ble pc 0) (cond (Nat.beq pc 0) (some (.iconst 0, 1)) none) (cond (Nat.beq pc 1) (some (.istore_n 1, 1)) none)) (cond (Nat.ble pc 2) (cond (Nat.beq pc 2) (some (.iconst 0, 1)) none) (cond (Nat.ble pc 3) (cond (Nat.beq pc 3) (some (.istore_n 2, 1)) none) (cond (Nat.beq pc 4) (some (.iload_n 2, 1)) none)))) (cond (Nat.ble pc 11) (cond (Nat.ble pc 5) (cond (Nat.beq pc 5) (some (.sipush 240, 3)) none) (cond (Nat.ble pc 8) (cond (Nat.beq pc 8) (some (.if_icmp .ge 28, 3)) none) (cond (Nat.beq pc 11) (some (.iload_n 1, 1)) none))) (cond (Nat.ble pc 12) (cond (Nat.beq pc 12) (some (.aload_n 0, 1)) none) (cond (Nat.ble pc 13) (cond (Nat.beq pc 13) (some (.getfield 65, 3)) none) (cond (Nat.beq pc 16) (some (.iload_n 2, 1)) none))))) (cond (Nat.ble pc 27) (cond (Nat.ble pc 20) (cond (Nat.ble pc 17) (cond (Nat.beq pc 17) (some (.iaload, 1)) none) (cond (Nat.ble pc 18) (cond (Nat.beq pc 18) (some (.bipush (-4), 2)) none) (cond (Nat.beq pc 20) (some (.if_icmp .ne 7, 3)) none))) (cond (Nat.ble pc 23) (cond (Nat.beq pc 23) (some (.iconst 0, 1)) none) (cond (Nat.ble pc 24) (cond (Nat.beq pc 24) (some (.goto 4, 3)) none) (cond (Nat.beq pc 27) (some (.iconst 1, 1)) none)))) (cond (Nat.ble pc 30) (cond (Nat.ble pc 28) (cond (Nat.beq pc 28) (some (.iadd, 1)) none) (cond (Nat.ble pc 29) (cond (Nat.beq pc 29) (some (.istore_n 1, 1)) none) (cond (Nat.beq pc 30) (some (.iinc 2 1, 3)) none))) (cond (Nat.ble pc 33) (cond (Nat.beq pc 33) (some (.goto (-29), 3)) none) (cond (Nat.ble pc 36) (cond (Nat.beq pc 36) (some (.iload_n 1, 1)) none) (cond (Nat.beq pc 37) (some (.ireturn, 1)) none)))))
def q_gX9_ask (pc : Nat) : Option (Instr × Nat) := cond (Nat.ble pc 32) (cond (Nat.ble pc 16) (cond (Nat.ble pc 5) (cond (Nat.ble pc 1) (cond (Nat.ble pc 0) (cond (Nat.beq pc 0) (some (.aload_n 0, 1)) none) (cond (Nat.beq pc 1) (some (.iload_n 1, 1)) none)) (cond (Nat.ble pc 2) (cond (Nat.beq pc 2) (some (.invokevirtual 192, 3)) none) (cond (Nat.beq pc 5) (some (.ifCond .eq 24, 3)) none))) (cond (Nat.ble pc 9) (cond (Nat.ble pc 8) (cond (Nat.beq pc 8) (some (.iload_n 2, 1)) none) (cond (Nat.beq pc 9) (some (.iload_n 3, 1)) none)) (cond (Nat.ble pc 10) (cond (Nat.beq pc 10) (some (.invokestatic 182, 3)) none) (cond (Nat.ble pc 13) (cond (Nat.beq pc 13) (some (.ifCond .eq 16, 3)) none) (cond (Nat.beq pc 16) (some (.iload 4, 2)) none))))) (cond (Nat.ble pc 23) (cond (Nat.ble pc 19) (cond (Nat.ble pc 18) (cond (Nat.beq pc 18) (some (.i2l, 1)) none) (cond (Nat.beq pc 19) (some (.lconst 0, 1)) none)) (cond (Nat.ble pc 20) (cond (Nat.beq pc 20) (some (.ldc2_w 199, 3)) none) (cond (Nat.beq pc 23) (some (.invokestatic 96, 3)) none))) (cond (Nat.ble pc 29) (cond (Nat.ble pc 26) (cond (Nat.beq pc 26) (some (.ifCond .ne 5, 3)) none) (cond (Nat.beq pc 29) (some (.iconst (-1), 1)) none)) (cond (Nat.ble pc 30) (cond (Nat.beq pc 30) (some (.ireturn, 1)) none) (cond (Nat.ble pc 31) (cond (Nat.beq pc 31) (some (.aload_n 0, 1)) none) (cond (Nat.beq pc 32) (some (.getfield 201, 3)) none)))))) (cond (Nat.ble pc 49) (cond (Nat.ble pc 41) (cond (Nat.ble pc 38) (cond (Nat.ble pc 35) (cond (Nat.beq pc 35) (some (.ifCond .eq 6, 3)) none) (cond (Nat.beq pc 38) (some (.bipush (-2), 2)) none)) (cond (Nat.ble pc 40) (cond (Nat.beq pc 40) (some (.ireturn, 1)) none) (cond (Nat.beq pc 41) (some (.aload_n 0, 1)) none))) (cond (Nat.ble pc 45) (cond (Nat.ble pc 42) (cond (Nat.beq pc 42) (some (.getfield 65, 3)) none) (cond (Nat.beq pc 45) (some (.bipush 30, 2)) none)) (cond (Nat.ble pc 47) (cond (Nat.beq pc 47) (some (.iload_n 1, 1)) none) (cond (Nat.ble pc 48) (cond (Nat.beq pc 48) (some (.imul, 1)) none) (cond (Nat.beq pc 49) (some (.bipush 6, 2)) none))))) (cond (Nat.ble pc 55) (cond (Nat.ble pc 52) (cond (Nat.ble pc 51) (cond (Nat.beq pc 51) (some (.iload_n 2, 1)) none) (cond (Nat.beq pc 52) (some (.imul, 1)) none)) (cond (Nat.ble pc 53) (cond (Nat.beq pc 53) (some (.iadd, 1)) none) (cond (Nat.ble pc 54) (cond (Nat.beq pc 54) (some (.iload_n 3, 1)) none) (cond (Nat.beq pc 55) (some (.iadd, 1)) none)))) (cond (Nat.ble pc 58) (cond (Nat.ble pc 56) (cond (Nat.beq pc 56) (some (.iload 4, 2)) none) (cond (Nat.beq pc 58) (some (.iastore, 1)) none)) (cond (Nat.ble pc 59) (cond (Nat.beq pc 59) (some (.aload_n 0, 1)) none) (cond (Nat.ble pc 60) (cond (Nat.beq pc 60) (some (.invokevirtual 205, 3)) none) (cond (Nat.beq pc 63) (some (.ireturn, 1)) none))))))
def q_gX9_let (pc : Nat) : Option (Instr × Nat) := cond (Nat.ble pc 125) (cond (Nat.ble pc 58) (cond (Nat.ble pc 27) (cond (Nat.ble pc 12) (cond (Nat.ble pc 7) (cond (Nat.ble pc 1) (cond (Nat.ble pc 0) (cond (Nat.beq pc 0) (some (.aload_n 0, 1)) none) (cond (Nat.beq pc 1) (some (.getfield 201, 3)) none)) (cond (Nat.ble pc 4) (cond (Nat.beq pc 4) (some (.ifCond .eq 6, 3)) none) (cond (Nat.beq pc 7) (some (.bipush (-2), 2)) none))) (cond (Nat.ble pc 10) (cond (Nat.ble pc 9) (cond (Nat.beq pc 9) (some (.ireturn, 1)) none) (cond (Nat.beq pc 10) (some (.aload_n 0, 1)) none)) (cond (Nat.ble pc 11) (cond (Nat.beq pc 11) (some (.iconst 1, 1)) none) (cond (Nat.beq pc 12) (some (.putfield 201, 3)) none)))) (cond (Nat.ble pc 18) (cond (Nat.ble pc 16) (cond (Nat.ble pc 15) (cond (Nat.beq pc 15) (some (.iconst 0, 1)) none) (cond (Nat.beq pc 16) (some (.istore_n 1, 1)) none)) (cond (Nat.ble pc 17) (cond (Nat.beq pc 17) (some (.iconst 0, 1)) none) (cond (Nat.beq pc 18) (some (.istore_n 2, 1)) none))) (cond (Nat.ble pc 20) (cond (Nat.ble pc 19) (cond (Nat.beq pc 19) (some (.iload_n 2, 1)) none) (cond (Nat.beq pc 20) (some (.bipush 30, 2)) none)) (cond (Nat.ble pc 22) (cond (Nat.beq pc 22) (some (.if_icmp .ge 221, 3)) none) (cond (Nat.ble pc 25) (cond (Nat.beq pc 25) (some (.bipush (-4), 2)) none) (cond (Nat.beq pc 27) (some (.istore_n 3, 1)) none)))))) (cond (Nat.ble pc 41) (cond (Nat.ble pc 33) (cond (Nat.ble pc 29) (cond (Nat.ble pc 28) (cond (Nat.beq pc 28) (some (.iconst 0, 1)) none) (cond (Nat.beq pc 29) (some (.istore 4, 2)) none)) (cond (Nat.ble pc 31) (cond (Nat.beq pc 31) (some (.iload 4, 2)) none) (cond (Nat.beq pc 33) (some (.aload_n 0, 1)) none))) (cond (Nat.ble pc 37) (cond (Nat.ble pc 34) (cond (Nat.beq pc 34) (some (.getfield 179, 3)) none) (cond (Nat.beq pc 37) (some (.if_icmp .ge 150, 3)) none)) (cond (Nat.ble pc 40) (cond (Nat.beq pc 40) (some (.aload_n 0, 1)) none) (cond (Nat.beq pc 41) (some (.iload_n 2, 1)) none)))) (cond (Nat.ble pc 49) (cond (Nat.ble pc 45) (cond (Nat.ble pc 42) (cond (Nat.beq pc 42) (some (.invokevirtual 188, 3)) none) (cond (Nat.beq pc 45) (some (.ifCond .eq 142, 3)) none)) (cond (Nat.ble pc 48) (cond (Nat.beq pc 48) (some (.aload_n 0, 1)) none) (cond (Nat.beq pc 49) (some (.getfield 65, 3)) none))) (cond (Nat.ble pc 54) (cond (Nat.ble pc 52) (cond (Nat.beq pc 52) (some (.bipush 30, 2)) none) (cond (Nat.beq pc 54) (some (.iload 4, 2)) none)) (cond (Nat.ble pc 56) (cond (Nat.beq pc 56) (some (.imul, 1)) none) (cond (Nat.ble pc 57) (cond (Nat.beq pc 57) (some (.iload_n 2, 1)) none) (cond (Nat.beq pc 58) (some (.iadd, 1)) none))))))) (cond (Nat.ble pc 89) (cond (Nat.ble pc 73) (cond (Nat.ble pc 64) (cond (Nat.ble pc 60) (cond (Nat.ble pc 59) (cond (Nat.beq pc 59) (some (.iaload, 1)) none) (cond (Nat.beq pc 60) (some (.istore 5, 2)) none)) (cond (Nat.ble pc 62) (cond (Nat.beq pc 62) (some (.iload 5, 2)) none) (cond (Nat.beq pc 64) (some (.bipush (-4), 2)) none))) (cond (Nat.ble pc 69) (cond (Nat.ble pc 66) (cond (Nat.beq pc 66) (some (.if_icmp .eq 41, 3)) none) (cond (Nat.beq pc 69) (some (.aload_n 0, 1)) none)) (cond (Nat.ble pc 70) (cond (Nat.beq pc 70) (some (.getfield 53, 3)) none) (cond (Nat.beq pc 73) (some (.iload 4, 2)) none)))) (cond (Nat.ble pc 81) (cond (Nat.ble pc 76) (cond (Nat.ble pc 75) (cond (Nat.beq pc 75) (some (.iaload, 1)) none) (cond (Nat.beq pc 76) (some (.bipush (-4), 2)) none)) (cond (Nat.ble pc 78) (cond (Nat.beq pc 78) (some (.if_icmp .ne 29, 3)) none) (cond (Nat.beq pc 81) (some (.aload_n 0, 1)) none))) (cond (Nat.ble pc 85) (cond (Nat.ble pc 82) (cond (Nat.beq pc 82) (some (.getfield 13, 3)) none) (cond (Nat.beq pc 85) (some (.iconst 0, 1)) none)) (cond (Nat.ble pc 86) (cond (Nat.beq pc 86) (some (.iaload, 1)) none) (cond (Nat.ble pc 87) (cond (Nat.beq pc 87) (some (.bipush (-4), 2)) none) (cond (Nat.beq pc 89) (some (.if_icmp .eq 14, 3)) none)))))) (cond (Nat.ble pc 107) (cond (Nat.ble pc 98) (cond (Nat.ble pc 94) (cond (Nat.ble pc 92) (cond (Nat.beq pc 92) (some (.iload 5, 2)) none) (cond (Nat.beq pc 94) (some (.aload_n 0, 1)) none)) (cond (Nat.ble pc 95) (cond (Nat.beq pc 95) (some (.getfield 13, 3)) none) (cond (Nat.beq pc 98) (some (.iconst 0, 1)) none))) (cond (Nat.ble pc 100) (cond (Nat.ble pc 99) (cond (Nat.beq pc 99) (some (.iaload, 1)) none) (cond (Nat.beq pc 100) (some (.if_icmp .gt 7, 3)) none)) (cond (Nat.ble pc 103) (cond (Nat.beq pc 103) (some (.iconst 1, 1)) none) (cond (Nat.ble pc 104) (cond (Nat.beq pc 104) (some (.goto 4, 3)) none) (cond (Nat.beq pc 107) (some (.iconst 0, 1)) none))))) (cond (Nat.ble pc 115) (cond (Nat.ble pc 110) (cond (Nat.ble pc 108) (cond (Nat.beq pc 108) (some (.istore 6, 2)) none) (cond (Nat.beq pc 110) (some (.iload 6, 2)) none)) (cond (Nat.ble pc 112) (cond (Nat.beq pc 112) (some (.ifCond .eq 69, 3)) none) (cond (Nat.beq pc 115) (some (.iload_n 3, 1)) none))) (cond (Nat.ble pc 118) (cond (Nat.ble pc 116) (cond (Nat.beq pc 116) (some (.bipush (-4), 2)) none) (cond (Nat.beq pc 118) (some (.if_icmp .ne 7, 3)) none)) (cond (Nat.ble pc 121) (cond (Nat.beq pc 121) (some (.iconst 0, 1)) none) (cond (Nat.ble pc 122) (cond (Nat.beq pc 122) (some (.goto 14, 3)) none) (cond (Nat.beq pc 125) (some (.aload_n 0, 1)) none)))))))) (cond (Nat.ble pc 190) (cond (Nat.ble pc 155) (cond (Nat.ble pc 136) (cond (Nat.ble pc 132) (cond (Nat.ble pc 129) (cond (Nat.ble pc 126) (cond (Nat.beq pc 126) (some (.getfield 65, 3)) none) (cond (Nat.beq pc 129) (some (.bipush 30, 2)) none)) (cond (Nat.ble pc 131) (cond (Nat.beq pc 131) (some (.iload_n 3, 1)) none) (cond (Nat.beq pc 132) (some (.imul, 1)) none))) (cond (Nat.ble pc 134) (cond (Nat.ble pc 133) (cond (Nat.beq pc 133) (some (.iload_n 2, 1)) none) (cond (Nat.beq pc 134) (some (.iadd, 1)) none)) (cond (Nat.ble pc 135) (cond (Nat.beq pc 135) (some (.iaload, 1)) none) (cond (Nat.beq pc 136) (some (.istore 7, 2)) none)))) (cond (Nat.ble pc 144) (cond (Nat.ble pc 139) (cond (Nat.ble pc 138) (cond (Nat.beq pc 138) (some (.iload_n 3, 1)) none) (cond (Nat.beq pc 139) (some (.bipush (-4), 2)) none)) (cond (Nat.ble pc 141) (cond (Nat.beq pc 141) (some (.if_icmp .eq 33, 3)) none) (cond (Nat.beq pc 144) (some (.iload 5, 2)) none))) (cond (Nat.ble pc 148) (cond (Nat.ble pc 146) (cond (Nat.beq pc 146) (some (.iload 7, 2)) none) (cond (Nat.beq pc 148) (some (.if_icmp .lt 26, 3)) none)) (cond (Nat.ble pc 151) (cond (Nat.beq pc 151) (some (.iload 5, 2)) none) (cond (Nat.ble pc 153) (cond (Nat.beq pc 153) (some (.iload 7, 2)) none) (cond (Nat.beq pc 155) (some (.if_icmp .ne 24, 3)) none)))))) (cond (Nat.ble pc 171) (cond (Nat.ble pc 164) (cond (Nat.ble pc 159) (cond (Nat.ble pc 158) (cond (Nat.beq pc 158) (some (.aload_n 0, 1)) none) (cond (Nat.beq pc 159) (some (.getfield 50, 3)) none)) (cond (Nat.ble pc 162) (cond (Nat.beq pc 162) (some (.iload 4, 2)) none) (cond (Nat.beq pc 164) (some (.iaload, 1)) none))) (cond (Nat.ble pc 166) (cond (Nat.ble pc 165) (cond (Nat.beq pc 165) (some (.aload_n 0, 1)) none) (cond (Nat.beq pc 166) (some (.getfield 50, 3)) none)) (cond (Nat.ble pc 169) (cond (Nat.beq pc 169) (some (.iload_n 3, 1)) none) (cond (Nat.ble pc 170) (cond (Nat.beq pc 170) (some (.iaload, 1)) none) (cond (Nat.beq pc 171) (some (.if_icmp .ge 8, 3)) none))))) (cond (Nat.ble pc 180) (cond (Nat.ble pc 176) (cond (Nat.ble pc 174) (cond (Nat.beq pc 174) (some (.iload 4, 2)) none) (cond (Nat.beq pc 176) (some (.goto 4, 3)) none)) (cond (Nat.ble pc 179) (cond (Nat.beq pc 179) (some (.iload_n 3, 1)) none) (cond (Nat.beq pc 180) (some (.istore_n 3, 1)) none))) (cond (Nat.ble pc 184) (cond (Nat.ble pc 181) (cond (Nat.beq pc 181) (some (.iinc 4 1, 3)) none) (cond (Nat.beq pc 184) (some (.goto (-153), 3)) none)) (cond (Nat.ble pc 187) (cond (Nat.beq pc 187) (some (.iload_n 3, 1)) none) (cond (Nat.ble pc 188) (cond (Nat.beq pc 188) (some (.bipush (-4), 2)) none) (cond (Nat.beq pc 190) (some (.if_icmp .eq 47, 3)) none))))))) (cond (Nat.ble pc 218) (cond (Nat.ble pc 204) (cond (Nat.ble pc 198) (cond (Nat.ble pc 194) (cond (Nat.ble pc 193) (cond (Nat.beq pc 193) (some (.aload_n 0, 1)) none) (cond (Nat.beq pc 194) (some (.getfield 41, 3)) none)) (cond (Nat.ble pc 197) (cond (Nat.beq pc 197) (some (.iload_n 2, 1)) none) (cond (Nat.beq pc 198) (some (.iload_n 3, 1)) none))) (cond (Nat.ble pc 200) (cond (Nat.ble pc 199) (cond (Nat.beq pc 199) (some (.iastore, 1)) none) (cond (Nat.beq pc 200) (some (.aload_n 0, 1)) none)) (cond (Nat.ble pc 201) (cond (Nat.beq pc 201) (some (.getfield 53, 3)) none) (cond (Nat.beq pc 204) (some (.iload_n 3, 1)) none)))) (cond (Nat.ble pc 208) (cond (Nat.ble pc 206) (cond (Nat.ble pc 205) (cond (Nat.beq pc 205) (some (.iload_n 2, 1)) none) (cond (Nat.beq pc 206) (some (.iastore, 1)) none)) (cond (Nat.ble pc 207) (cond (Nat.beq pc 207) (some (.aload_n 0, 1)) none) (cond (Nat.beq pc 208) (some (.getfield 56, 3)) none))) (cond (Nat.ble pc 212) (cond (Nat.ble pc 211) (cond (Nat.beq pc 211) (some (.iload_n 3, 1)) none) (cond (Nat.beq pc 212) (some (.aload_n 0, 1)) none)) (cond (Nat.ble pc 213) (cond (Nat.beq pc 213) (some (.getfield 65, 3)) none) (cond (Nat.ble pc 216) (cond (Nat.beq pc 216) (some (.bipush 30, 2)) none) (cond (Nat.beq pc 218) (some (.iload_n 3, 1)) none)))))) (cond (Nat.ble pc 229) (cond (Nat.ble pc 222) (cond (Nat.ble pc 220) (cond (Nat.ble pc 219) (cond (Nat.beq pc 219) (some (.imul, 1)) none) (cond (Nat.beq pc 220) (some (.iload_n 2, 1)) none)) (cond (Nat.ble pc 221) (cond (Nat.beq pc 221) (some (.iadd, 1)) none) (cond (Nat.beq pc 222) (some (.iaload, 1)) none))) (cond (Nat.ble pc 224) (cond (Nat.ble pc 223) (cond (Nat.beq pc 223) (some (.iastore, 1)) none) (cond (Nat.beq pc 224) (some (.aload_n 0, 1)) none)) (cond (Nat.ble pc 225) (cond (Nat.beq pc 225) (some (.getfield 50, 3)) none) (cond (Nat.ble pc 228) (cond (Nat.beq pc 228) (some (.iload_n 3, 1)) none) (cond (Nat.beq pc 229) (some (.dup2, 1)) none))))) (cond (Nat.ble pc 233) (cond (Nat.ble pc 231) (cond (Nat.ble pc 230) (cond (Nat.beq pc 230) (some (.iaload, 1)) none) (cond (Nat.beq pc 231) (some (.iconst 1, 1)) none)) (cond (Nat.ble pc 232) (cond (Nat.beq pc 232) (some (.iadd, 1)) none) (cond (Nat.beq pc 233) (some (.iastore, 1)) none))) (cond (Nat.ble pc 237) (cond (Nat.ble pc 234) (cond (Nat.beq pc 234) (some (.iinc 1 1, 3)) none) (cond (Nat.beq pc 237) (some (.iinc 2 1, 3)) none)) (cond (Nat.ble pc 240) (cond (Nat.beq pc 240) (some (.goto (-221), 3)) none) (cond (Nat.ble pc 243) (cond (Nat.beq pc 243) (some (.iload_n 1, 1)) none) (cond (Nat.beq pc 244) (some (.ireturn, 1)) none))))))))
def q_gX9_month (pc : Nat) : Option (Instr × Nat) := cond (Nat.ble pc 50) (cond (Nat.ble pc 23) (cond (Nat.ble pc 11) (cond (Nat.ble pc 4) (cond (Nat.ble pc 0) (cond (Nat.beq pc 0) (some (.aload_n 0, 1)) none) (cond (Nat.ble pc 1) (cond (Nat.beq pc 1) (some (.getfield 201, 3)) none) (cond (Nat.beq pc 4) (some (.ifCond .ne 6, 3)) none))) (cond (Nat.ble pc 9) (cond (Nat.ble pc 7) (cond (Nat.beq pc 7) (some (.bipush (-2), 2)) none) (cond (Nat.beq pc 9) (some (.ireturn, 1)) none)) (cond (Nat.ble pc 10) (cond (Nat.beq pc 10) (some (.aload_n 0, 1)) none) (cond (Nat.beq pc 11) (some (.iconst 0, 1)) none)))) (cond (Nat.ble pc 16) (cond (Nat.ble pc 12) (cond (Nat.beq pc 12) (some (.putfield 201, 3)) none) (cond (Nat.ble pc 15) (cond (Nat.beq pc 15) (some (.iconst 0, 1)) none) (cond (Nat.beq pc 16) (some (.istore_n 1, 1)) none))) (cond (Nat.ble pc 18) (cond (Nat.ble pc 17) (cond (Nat.beq pc 17) (some (.iload_n 1, 1)) none) (cond (Nat.beq pc 18) (some (.bipush 30, 2)) none)) (cond (Nat.ble pc 20) (cond (Nat.beq pc 20) (some (.if_icmp .ge 17, 3)) none) (cond (Nat.beq pc 23) (some (.aload_n 0, 1)) none))))) (cond (Nat.ble pc 37) (cond (Nat.ble pc 28) (cond (Nat.ble pc 24) (cond (Nat.beq pc 24) (some (.getfield 41, 3)) none) (cond (Nat.ble pc 27) (cond (Nat.beq pc 27) (some (.iload_n 1, 1)) none) (cond (Nat.beq pc 28) (some (.bipush (-4), 2)) none))) (cond (Nat.ble pc 31) (cond (Nat.ble pc 30) (cond (Nat.beq pc 30) (some (.iastore, 1)) none) (cond (Nat.beq pc 31) (some (.iinc 1 1, 3)) none)) (cond (Nat.ble pc 34) (cond (Nat.beq pc 34) (some (.goto (-17), 3)) none) (cond (Nat.beq pc 37) (some (.iconst 0, 1)) none)))) (cond (Nat.ble pc 42) (cond (Nat.ble pc 39) (cond (Nat.ble pc 38) (cond (Nat.beq pc 38) (some (.istore_n 1, 1)) none) (cond (Nat.beq pc 39) (some (.iload_n 1, 1)) none)) (cond (Nat.ble pc 40) (cond (Nat.beq pc 40) (some (.bipush 8, 2)) none) (cond (Nat.beq pc 42) (some (.if_icmp .ge 24, 3)) none))) (cond (Nat.ble pc 46) (cond (Nat.ble pc 45) (cond (Nat.beq pc 45) (some (.aload_n 0, 1)) none) (cond (Nat.beq pc 46) (some (.getfield 53, 3)) none)) (cond (Nat.ble pc 49) (cond (Nat.beq pc 49) (some (.iload_n 1, 1)) none) (cond (Nat.beq pc 50) (some (.bipush (-4), 2)) none)))))) (cond (Nat.ble pc 75) (cond (Nat.ble pc 60) (cond (Nat.ble pc 54) (cond (Nat.ble pc 52) (cond (Nat.beq pc 52) (some (.iastore, 1)) none) (cond (Nat.ble pc 53) (cond (Nat.beq pc 53) (some (.aload_n 0, 1)) none) (cond (Nat.beq pc 54) (some (.getfield 62, 3)) none))) (cond (Nat.ble pc 58) (cond (Nat.ble pc 57) (cond (Nat.beq pc 57) (some (.iload_n 1, 1)) none) (cond (Nat.beq pc 58) (some (.iconst 0, 1)) none)) (cond (Nat.ble pc 59) (cond (Nat.beq pc 59) (some (.bastore, 1)) none) (cond (Nat.beq pc 60) (some (.iinc 1 1, 3)) none)))) (cond (Nat.ble pc 67) (cond (Nat.ble pc 63) (cond (Nat.beq pc 63) (some (.goto (-24), 3)) none) (cond (Nat.ble pc 66) (cond (Nat.beq pc 66) (some (.iconst 0, 1)) none) (cond (Nat.beq pc 67) (some (.istore_n 1, 1)) none))) (cond (Nat.ble pc 69) (cond (Nat.ble pc 68) (cond (Nat.beq pc 68) (some (.iload_n 1, 1)) none) (cond (Nat.beq pc 69) (some (.sipush 240, 3)) none)) (cond (Nat.ble pc 72) (cond (Nat.beq pc 72) (some (.if_icmp .ge 17, 3)) none) (cond (Nat.beq pc 75) (some (.aload_n 0, 1)) none))))) (cond (Nat.ble pc 89) (cond (Nat.ble pc 80) (cond (Nat.ble pc 76) (cond (Nat.beq pc 76) (some (.getfield 65, 3)) none) (cond (Nat.ble pc 79) (cond (Nat.beq pc 79) (some (.iload_n 1, 1)) none) (cond (Nat.beq pc 80) (some (.bipush (-4), 2)) none))) (cond (Nat.ble pc 83) (cond (Nat.ble pc 82) (cond (Nat.beq pc 82) (some (.iastore, 1)) none) (cond (Nat.beq pc 83) (some (.iinc 1 1, 3)) none)) (cond (Nat.ble pc 86) (cond (Nat.beq pc 86) (some (.goto (-18), 3)) none) (cond (Nat.beq pc 89) (some (.aload_n 0, 1)) none)))) (cond (Nat.ble pc 95) (cond (Nat.ble pc 91) (cond (Nat.ble pc 90) (cond (Nat.beq pc 90) (some (.dup, 1)) none) (cond (Nat.beq pc 91) (some (.getfield 208, 3)) none)) (cond (Nat.ble pc 94) (cond (Nat.beq pc 94) (some (.iconst 1, 1)) none) (cond (Nat.beq pc 95) (some (.iadd, 1)) none))) (cond (Nat.ble pc 99) (cond (Nat.ble pc 96) (cond (Nat.beq pc 96) (some (.putfield 208, 3)) none) (cond (Nat.beq pc 99) (some (.aload_n 0, 1)) none)) (cond (Nat.ble pc 100) (cond (Nat.beq pc 100) (some (.getfield 208, 3)) none) (cond (Nat.beq pc 103) (some (.ireturn, 1)) none))))))
def q_gX9_size (pc : Nat) : Option (Instr × Nat) := cond (Nat.ble pc 38) (cond (Nat.ble pc 15) (cond (Nat.ble pc 6) (cond (Nat.ble pc 1) (cond (Nat.ble pc 0) (cond (Nat.beq pc 0) (some (.iload_n 1, 1)) none) (cond (Nat.beq pc 1) (some (.i2l, 1)) none)) (cond (Nat.ble pc 2) (cond (Nat.beq pc 2) (some (.lconst 1, 1)) none) (cond (Nat.ble pc 3) (cond (Nat.beq pc 3) (some (.ldc2_w 211, 3)) none) (cond (Nat.beq pc 6) (some (.invokestatic 96, 3)) none)))) (cond (Nat.ble pc 12) (cond (Nat.ble pc 9) (cond (Nat.beq pc 9) (some (.ifCond .eq 15, 3)) none) (cond (Nat.beq pc 12) (some (.iload_n 2, 1)) none)) (cond (Nat.ble pc 13) (cond (Nat.beq pc 13) (some (.i2l, 1)) none) (cond (Nat.ble pc 14) (cond (Nat.beq pc 14) (some (.lconst 1, 1)) none) (cond (Nat.beq pc 15) (some (.ldc2_w 213, 3)) none))))) (cond (Nat.ble pc 26) (cond (Nat.ble pc 21) (cond (Nat.ble pc 18) (cond (Nat.beq pc 18) (some (.invokestatic 96, 3)) none) (cond (Nat.beq pc 21) (some (.ifCond .ne 5, 3)) none)) (cond (Nat.ble pc 24) (cond (Nat.beq pc 24) (some (.iconst (-1), 1)) none) (cond (Nat.ble pc 25) (cond (Nat.beq pc 25) (some (.ireturn, 1)) none) (cond (Nat.beq pc 26) (some (.aload_n 0, 1)) none)))) (cond (Nat.ble pc 32) (cond (Nat.ble pc 27) (cond (Nat.beq pc 27) (some (.getfield 215, 3)) none) (cond (Nat.ble pc 30) (cond (Nat.beq pc 30) (some (.bipush 8, 2)) none) (cond (Nat.beq pc 32) (some (.if_icmp .ne 6, 3)) none))) (cond (Nat.ble pc 35) (cond (Nat.beq pc 35) (some (.bipush (-3), 2)) none) (cond (Nat.ble pc 37) (cond (Nat.beq pc 37) (some (.ireturn, 1)) none) (cond (Nat.beq pc 38) (some (.aload_n 0, 1)) none)))))) (cond (Nat.ble pc 57) (cond (Nat.ble pc 47) (cond (Nat.ble pc 42) (cond (Nat.ble pc 39) (cond (Nat.beq pc 39) (some (.getfield 68, 3)) none) (cond (Nat.beq pc 42) (some (.aload_n 0, 1)) none)) (cond (Nat.ble pc 43) (cond (Nat.beq pc 43) (some (.getfield 215, 3)) none) (cond (Nat.ble pc 46) (cond (Nat.beq pc 46) (some (.iload_n 1, 1)) none) (cond (Nat.beq pc 47) (some (.iastore, 1)) none)))) (cond (Nat.ble pc 52) (cond (Nat.ble pc 48) (cond (Nat.beq pc 48) (some (.aload_n 0, 1)) none) (cond (Nat.ble pc 49) (cond (Nat.beq pc 49) (some (.getfield 71, 3)) none) (cond (Nat.beq pc 52) (some (.aload_n 0, 1)) none))) (cond (Nat.ble pc 53) (cond (Nat.beq pc 53) (some (.getfield 215, 3)) none) (cond (Nat.ble pc 56) (cond (Nat.beq pc 56) (some (.iload_n 2, 1)) none) (cond (Nat.beq pc 57) (some (.iastore, 1)) none))))) (cond (Nat.ble pc 64) (cond (Nat.ble pc 59) (cond (Nat.ble pc 58) (cond (Nat.beq pc 58) (some (.aload_n 0, 1)) none) (cond (Nat.beq pc 59) (some (.dup, 1)) none)) (cond (Nat.ble pc 60) (cond (Nat.beq pc 60) (some (.getfield 215, 3)) none) (cond (Nat.ble pc 63) (cond (Nat.beq pc 63) (some (.iconst 1, 1)) none) (cond (Nat.beq pc 64) (some (.iadd, 1)) none)))) (cond (Nat.ble pc 69) (cond (Nat.ble pc 65) (cond (Nat.beq pc 65) (some (.putfield 215, 3)) none) (cond (Nat.ble pc 68) (cond (Nat.beq pc 68) (some (.aload_n 0, 1)) none) (cond (Nat.beq pc 69) (some (.getfield 215, 3)) none))) (cond (Nat.ble pc 72) (cond (Nat.beq pc 72) (some (.iconst 1, 1)) none) (cond (Nat.ble pc 73) (cond (Nat.beq pc 73) (some (.isub, 1)) none) (cond (Nat.beq pc 74) (some (.ireturn, 1)) none))))))
def q_gX9_isBlock (pc : Nat) : Option (Instr × Nat) := cond (Nat.ble pc 13) (cond (Nat.ble pc 5) (cond (Nat.ble pc 1) (cond (Nat.ble pc 0) (cond (Nat.beq pc 0) (some (.lload_n 0, 1)) none) (cond (Nat.beq pc 1) (some (.lconst 1, 1)) none)) (cond (Nat.ble pc 2) (cond (Nat.beq pc 2) (some (.ldc2_w 218, 3)) none) (cond (Nat.beq pc 5) (some (.invokestatic 96, 3)) none))) (cond (Nat.ble pc 11) (cond (Nat.ble pc 8) (cond (Nat.beq pc 8) (some (.ifCond .eq 16, 3)) none) (cond (Nat.beq pc 11) (some (.lload_n 2, 1)) none)) (cond (Nat.ble pc 12) (cond (Nat.beq pc 12) (some (.lload_n 0, 1)) none) (cond (Nat.beq pc 13) (some (.l2i, 1)) none)))) (cond (Nat.ble pc 17) (cond (Nat.ble pc 15) (cond (Nat.ble pc 14) (cond (Nat.beq pc 14) (some (.lshr, 1)) none) (cond (Nat.beq pc 15) (some (.lconst 0, 1)) none)) (cond (Nat.ble pc 16) (cond (Nat.beq pc 16) (some (.lcmp, 1)) none) (cond (Nat.beq pc 17) (some (.ifCond .ne 7, 3)) none))) (cond (Nat.ble pc 21) (cond (Nat.ble pc 20) (cond (Nat.beq pc 20) (some (.iconst 1, 1)) none) (cond (Nat.beq pc 21) (some (.goto 4, 3)) none)) (cond (Nat.ble pc 24) (cond (Nat.beq pc 24) (some (.iconst 0, 1)) none) (cond (Nat.beq pc 25) (some (.ireturn, 1)) none))))
def q_gX9_fits (pc : Nat) : Option (Instr × Nat) := cond (Nat.ble pc 30) (cond (Nat.ble pc 13) (cond (Nat.ble pc 6) (cond (Nat.ble pc 1) (cond (Nat.ble pc 0) (cond (Nat.beq pc 0) (some (.iload_n 2, 1)) none) (cond (Nat.beq pc 1) (some (.aload_n 0, 1)) none)) (cond (Nat.ble pc 2) (cond (Nat.beq pc 2) (some (.getfield 68, 3)) none) (cond (Nat.ble pc 5) (cond (Nat.beq pc 5) (some (.iload_n 1, 1)) none) (cond (Nat.beq pc 6) (some (.iaload, 1)) none)))) (cond (Nat.ble pc 8) (cond (Nat.ble pc 7) (cond (Nat.beq pc 7) (some (.iadd, 1)) none) (cond (Nat.beq pc 8) (some (.iload_n 3, 1)) none)) (cond (Nat.ble pc 9) (cond (Nat.beq pc 9) (some (.if_icmp .gt 7, 3)) none) (cond (Nat.ble pc 12) (cond (Nat.beq pc 12) (some (.iconst 1, 1)) none) (cond (Nat.beq pc 13) (some (.goto 4, 3)) none))))) (cond (Nat.ble pc 22) (cond (Nat.ble pc 17) (cond (Nat.ble pc 16) (cond (Nat.beq pc 16) (some (.iconst 0, 1)) none) (cond (Nat.beq pc 17) (some (.istore 6, 2)) none)) (cond (Nat.ble pc 19) (cond (Nat.beq pc 19) (some (.iload_n 2, 1)) none) (cond (Nat.ble pc 20) (cond (Nat.beq pc 20) (some (.istore 7, 2)) none) (cond (Nat.beq pc 22) (some (.iload 7, 2)) none)))) (cond (Nat.ble pc 25) (cond (Nat.ble pc 24) (cond (Nat.beq pc 24) (some (.iload_n 2, 1)) none) (cond (Nat.beq pc 25) (some (.aload_n 0, 1)) none)) (cond (Nat.ble pc 26) (cond (Nat.beq pc 26) (some (.getfield 68, 3)) none) (cond (Nat.ble pc 29) (cond (Nat.beq pc 29) (some (.iload_n 1, 1)) none) (cond (Nat.beq pc 30) (some (.iaload, 1)) none)))))) (cond (Nat.ble pc 47) (cond (Nat.ble pc 40) (cond (Nat.ble pc 32) (cond (Nat.ble pc 31) (cond (Nat.beq pc 31) (some (.iadd, 1)) none) (cond (Nat.beq pc 32) (some (.if_icmp .ge 33, 3)) none)) (cond (Nat.ble pc 35) (cond (Nat.beq pc 35) (some (.iload 6, 2)) none) (cond (Nat.ble pc 37) (cond (Nat.beq pc 37) (some (.ifCond .eq 28, 3)) none) (cond (Nat.beq pc 40) (some (.lload 4, 2)) none)))) (cond (Nat.ble pc 44) (cond (Nat.ble pc 42) (cond (Nat.beq pc 42) (some (.iload 7, 2)) none) (cond (Nat.beq pc 44) (some (.lshr, 1)) none)) (cond (Nat.ble pc 45) (cond (Nat.beq pc 45) (some (.lconst 1, 1)) none) (cond (Nat.ble pc 46) (cond (Nat.beq pc 46) (some (.land, 1)) none) (cond (Nat.beq pc 47) (some (.lconst 0, 1)) none))))) (cond (Nat.ble pc 56) (cond (Nat.ble pc 49) (cond (Nat.ble pc 48) (cond (Nat.beq pc 48) (some (.lcmp, 1)) none) (cond (Nat.beq pc 49) (some (.ifCond .ne 7, 3)) none)) (cond (Nat.ble pc 52) (cond (Nat.beq pc 52) (some (.iconst 1, 1)) none) (cond (Nat.ble pc 53) (cond (Nat.beq pc 53) (some (.goto 4, 3)) none) (cond (Nat.beq pc 56) (some (.iconst 0, 1)) none)))) (cond (Nat.ble pc 59) (cond (Nat.ble pc 57) (cond (Nat.beq pc 57) (some (.istore 6, 2)) none) (cond (Nat.beq pc 59) (some (.iinc 7 1, 3)) none)) (cond (Nat.ble pc 62) (cond (Nat.beq pc 62) (some (.goto (-40), 3)) none) (cond (Nat.ble pc 65) (cond (Nat.beq pc 65) (some (.iload 6, 2)) none) (cond (Nat.beq pc 67) (some (.ireturn, 1)) none))))))
def q_gX9_mostOf (pc : Nat) : Option (Instr × Nat) := cond (Nat.ble pc 62) (cond (Nat.ble pc 29) (cond (Nat.ble pc 10) (cond (Nat.ble pc 5) (cond (Nat.ble pc 1) (cond (Nat.ble pc 0) (cond (Nat.beq pc 0) (some (.aload_n 0, 1)) none) (cond (Nat.beq pc 1) (some (.getfield 77, 3)) none)) (cond (Nat.ble pc 4) (cond (Nat.beq pc 4) (some (.iload_n 1, 1)) none) (cond (Nat.beq pc 5) (some (.iconst 0, 1)) none))) (cond (Nat.ble pc 7) (cond (Nat.ble pc 6) (cond (Nat.beq pc 6) (some (.iastore, 1)) none) (cond (Nat.beq pc 7) (some (.iload_n 1, 1)) none)) (cond (Nat.ble pc 8) (cond (Nat.beq pc 8) (some (.iconst 1, 1)) none) (cond (Nat.ble pc 9) (cond (Nat.beq pc 9) (some (.isub, 1)) none) (cond (Nat.beq pc 10) (some (.istore 4, 2)) none))))) (cond (Nat.ble pc 18) (cond (Nat.ble pc 14) (cond (Nat.ble pc 12) (cond (Nat.beq pc 12) (some (.iload 4, 2)) none) (cond (Nat.beq pc 14) (some (.ifCond .lt 112, 3)) none)) (cond (Nat.ble pc 17) (cond (Nat.beq pc 17) (some (.aload_n 0, 1)) none) (cond (Nat.beq pc 18) (some (.getfield 77, 3)) none))) (cond (Nat.ble pc 23) (cond (Nat.ble pc 21) (cond (Nat.beq pc 21) (some (.iload 4, 2)) none) (cond (Nat.beq pc 23) (some (.aload_n 0, 1)) none)) (cond (Nat.ble pc 24) (cond (Nat.beq pc 24) (some (.getfield 77, 3)) none) (cond (Nat.ble pc 27) (cond (Nat.beq pc 27) (some (.iload 4, 2)) none) (cond (Nat.beq pc 29) (some (.iconst 1, 1)) none)))))) (cond (Nat.ble pc 42) (cond (Nat.ble pc 33) (cond (Nat.ble pc 31) (cond (Nat.ble pc 30) (cond (Nat.beq pc 30) (some (.iadd, 1)) none) (cond (Nat.beq pc 31) (some (.iaload, 1)) none)) (cond (Nat.ble pc 32) (cond (Nat.beq pc 32) (some (.iastore, 1)) none) (cond (Nat.beq pc 33) (some (.iconst 0, 1)) none))) (cond (Nat.ble pc 36) (cond (Nat.ble pc 34) (cond (Nat.beq pc 34) (some (.istore 5, 2)) none) (cond (Nat.beq pc 36) (some (.iload 5, 2)) none)) (cond (Nat.ble pc 38) (cond (Nat.beq pc 38) (some (.aload_n 0, 1)) none) (cond (Nat.ble pc 39) (cond (Nat.beq pc 39) (some (.getfield 215, 3)) none) (cond (Nat.beq pc 42) (some (.if_icmp .ge 78, 3)) none))))) (cond (Nat.ble pc 51) (cond (Nat.ble pc 46) (cond (Nat.ble pc 45) (cond (Nat.beq pc 45) (some (.aload_n 0, 1)) none) (cond (Nat.beq pc 46) (some (.iload 5, 2)) none)) (cond (Nat.ble pc 48) (cond (Nat.beq pc 48) (some (.iload 4, 2)) none) (cond (Nat.ble pc 50) (cond (Nat.beq pc 50) (some (.iload_n 1, 1)) none) (cond (Nat.beq pc 51) (some (.lload_n 2, 1)) none)))) (cond (Nat.ble pc 55) (cond (Nat.ble pc 52) (cond (Nat.beq pc 52) (some (.invokevirtual 220, 3)) none) (cond (Nat.beq pc 55) (some (.ifCond .eq 59, 3)) none)) (cond (Nat.ble pc 58) (cond (Nat.beq pc 58) (some (.aload_n 0, 1)) none) (cond (Nat.ble pc 59) (cond (Nat.beq pc 59) (some (.getfield 71, 3)) none) (cond (Nat.beq pc 62) (some (.iload 5, 2)) none))))))) (cond (Nat.ble pc 92) (cond (Nat.ble pc 78) (cond (Nat.ble pc 69) (cond (Nat.ble pc 65) (cond (Nat.ble pc 64) (cond (Nat.beq pc 64) (some (.iaload, 1)) none) (cond (Nat.beq pc 65) (some (.aload_n 0, 1)) none)) (cond (Nat.ble pc 66) (cond (Nat.beq pc 66) (some (.getfield 77, 3)) none) (cond (Nat.beq pc 69) (some (.iload 4, 2)) none))) (cond (Nat.ble pc 72) (cond (Nat.ble pc 71) (cond (Nat.beq pc 71) (some (.aload_n 0, 1)) none) (cond (Nat.beq pc 72) (some (.getfield 68, 3)) none)) (cond (Nat.ble pc 75) (cond (Nat.beq pc 75) (some (.iload 5, 2)) none) (cond (Nat.ble pc 77) (cond (Nat.beq pc 77) (some (.iaload, 1)) none) (cond (Nat.beq pc 78) (some (.iadd, 1)) none))))) (cond (Nat.ble pc 83) (cond (Nat.ble pc 80) (cond (Nat.ble pc 79) (cond (Nat.beq pc 79) (some (.iaload, 1)) none) (cond (Nat.beq pc 80) (some (.iadd, 1)) none)) (cond (Nat.ble pc 81) (cond (Nat.beq pc 81) (some (.istore 6, 2)) none) (cond (Nat.beq pc 83) (some (.aload_n 0, 1)) none))) (cond (Nat.ble pc 87) (cond (Nat.ble pc 84) (cond (Nat.beq pc 84) (some (.getfield 77, 3)) none) (cond (Nat.beq pc 87) (some (.iload 4, 2)) none)) (cond (Nat.ble pc 89) (cond (Nat.beq pc 89) (some (.iload 6, 2)) none) (cond (Nat.ble pc 91) (cond (Nat.beq pc 91) (some (.aload_n 0, 1)) none) (cond (Nat.beq pc 92) (some (.getfield 77, 3)) none)))))) (cond (Nat.ble pc 112) (cond (Nat.ble pc 101) (cond (Nat.ble pc 97) (cond (Nat.ble pc 95) (cond (Nat.beq pc 95) (some (.iload 4, 2)) none) (cond (Nat.beq pc 97) (some (.iaload, 1)) none)) (cond (Nat.ble pc 98) (cond (Nat.beq pc 98) (some (.if_icmp .le 8, 3)) none) (cond (Nat.beq pc 101) (some (.iload 6, 2)) none))) (cond (Nat.ble pc 106) (cond (Nat.ble pc 103) (cond (Nat.beq pc 103) (some (.goto 10, 3)) none) (cond (Nat.beq pc 106) (some (.aload_n 0, 1)) none)) (cond (Nat.ble pc 107) (cond (Nat.beq pc 107) (some (.getfield 77, 3)) none) (cond (Nat.ble pc 110) (cond (Nat.beq pc 110) (some (.iload 4, 2)) none) (cond (Nat.beq pc 112) (some (.iaload, 1)) none))))) (cond (Nat.ble pc 123) (cond (Nat.ble pc 114) (cond (Nat.ble pc 113) (cond (Nat.beq pc 113) (some (.iastore, 1)) none) (cond (Nat.beq pc 114) (some (.iinc 5 1, 3)) none)) (cond (Nat.ble pc 117) (cond (Nat.beq pc 117) (some (.goto (-81), 3)) none) (cond (Nat.ble pc 120) (cond (Nat.beq pc 120) (some (.iinc 4 (-1), 3)) none) (cond (Nat.beq pc 123) (some (.goto (-111), 3)) none)))) (cond (Nat.ble pc 127) (cond (Nat.ble pc 126) (cond (Nat.beq pc 126) (some (.aload_n 0, 1)) none) (cond (Nat.beq pc 127) (some (.getfield 77, 3)) none)) (cond (Nat.ble pc 130) (cond (Nat.beq pc 130) (some (.iconst 0, 1)) none) (cond (Nat.ble pc 131) (cond (Nat.beq pc 131) (some (.iaload, 1)) none) (cond (Nat.beq pc 132) (some (.ireturn, 1)) none)))))))
def q_gX9_choice (pc : Nat) : Option (Instr × Nat) := cond (Nat.ble pc 32) (cond (Nat.ble pc 15) (cond (Nat.ble pc 5) (cond (Nat.ble pc 1) (cond (Nat.ble pc 0) (cond (Nat.beq pc 0) (some (.iconst 0, 1)) none) (cond (Nat.beq pc 1) (some (.istore 5, 2)) none)) (cond (Nat.ble pc 3) (cond (Nat.beq pc 3) (some (.iload 5, 2)) none) (cond (Nat.beq pc 5) (some (.aload_n 0, 1)) none))) (cond (Nat.ble pc 9) (cond (Nat.ble pc 6) (cond (Nat.beq pc 6) (some (.getfield 215, 3)) none) (cond (Nat.beq pc 9) (some (.if_icmp .ge 55, 3)) none)) (cond (Nat.ble pc 12) (cond (Nat.beq pc 12) (some (.aload_n 0, 1)) none) (cond (Nat.ble pc 13) (cond (Nat.beq pc 13) (some (.iload 5, 2)) none) (cond (Nat.beq pc 15) (some (.iload_n 1, 1)) none))))) (cond (Nat.ble pc 24) (cond (Nat.ble pc 17) (cond (Nat.ble pc 16) (cond (Nat.beq pc 16) (some (.iload_n 2, 1)) none) (cond (Nat.beq pc 17) (some (.lload_n 3, 1)) none)) (cond (Nat.ble pc 18) (cond (Nat.beq pc 18) (some (.invokevirtual 220, 3)) none) (cond (Nat.ble pc 21) (cond (Nat.beq pc 21) (some (.ifCond .eq 37, 3)) none) (cond (Nat.beq pc 24) (some (.aload_n 0, 1)) none)))) (cond (Nat.ble pc 28) (cond (Nat.ble pc 25) (cond (Nat.beq pc 25) (some (.getfield 71, 3)) none) (cond (Nat.beq pc 28) (some (.iload 5, 2)) none)) (cond (Nat.ble pc 30) (cond (Nat.beq pc 30) (some (.iaload, 1)) none) (cond (Nat.ble pc 31) (cond (Nat.beq pc 31) (some (.aload_n 0, 1)) none) (cond (Nat.beq pc 32) (some (.getfield 77, 3)) none)))))) (cond (Nat.ble pc 46) (cond (Nat.ble pc 40) (cond (Nat.ble pc 36) (cond (Nat.ble pc 35) (cond (Nat.beq pc 35) (some (.iload_n 1, 1)) none) (cond (Nat.beq pc 36) (some (.aload_n 0, 1)) none)) (cond (Nat.ble pc 37) (cond (Nat.beq pc 37) (some (.getfield 68, 3)) none) (cond (Nat.beq pc 40) (some (.iload 5, 2)) none))) (cond (Nat.ble pc 43) (cond (Nat.ble pc 42) (cond (Nat.beq pc 42) (some (.iaload, 1)) none) (cond (Nat.beq pc 43) (some (.iadd, 1)) none)) (cond (Nat.ble pc 44) (cond (Nat.beq pc 44) (some (.iaload, 1)) none) (cond (Nat.ble pc 45) (cond (Nat.beq pc 45) (some (.iadd, 1)) none) (cond (Nat.beq pc 46) (some (.aload_n 0, 1)) none))))) (cond (Nat.ble pc 55) (cond (Nat.ble pc 50) (cond (Nat.ble pc 47) (cond (Nat.beq pc 47) (some (.getfield 77, 3)) none) (cond (Nat.beq pc 50) (some (.iload_n 1, 1)) none)) (cond (Nat.ble pc 51) (cond (Nat.beq pc 51) (some (.iaload, 1)) none) (cond (Nat.ble pc 52) (cond (Nat.beq pc 52) (some (.if_icmp .ne 6, 3)) none) (cond (Nat.beq pc 55) (some (.iload 5, 2)) none)))) (cond (Nat.ble pc 58) (cond (Nat.ble pc 57) (cond (Nat.beq pc 57) (some (.ireturn, 1)) none) (cond (Nat.beq pc 58) (some (.iinc 5 1, 3)) none)) (cond (Nat.ble pc 61) (cond (Nat.beq pc 61) (some (.goto (-58), 3)) none) (cond (Nat.ble pc 64) (cond (Nat.beq pc 64) (some (.bipush (-5), 2)) none) (cond (Nat.beq pc 66) (some (.ireturn, 1)) none))))))
def q_gX9_most (pc : Nat) : Option (Instr × Nat) := cond (Nat.ble pc 9) (cond (Nat.ble pc 2) (cond (Nat.ble pc 0) (cond (Nat.beq pc 0) (some (.iload_n 1, 1)) none) (cond (Nat.ble pc 1) (cond (Nat.beq pc 1) (some (.i2l, 1)) none) (cond (Nat.beq pc 2) (some (.lload_n 2, 1)) none))) (cond (Nat.ble pc 3) (cond (Nat.beq pc 3) (some (.invokestatic 224, 3)) none) (cond (Nat.ble pc 6) (cond (Nat.beq pc 6) (some (.ifCond .eq 12, 3)) none) (cond (Nat.beq pc 9) (some (.aload_n 0, 1)) none)))) (cond (Nat.ble pc 12) (cond (Nat.ble pc 10) (cond (Nat.beq pc 10) (some (.iload_n 1, 1)) none) (cond (Nat.ble pc 11) (cond (Nat.beq pc 11) (some (.lload_n 2, 1)) none) (cond (Nat.beq pc 12) (some (.invokevirtual 228, 3)) none))) (cond (Nat.ble pc 15) (cond (Nat.beq pc 15) (some (.goto 4, 3)) none) (cond (Nat.ble pc 18) (cond (Nat.beq pc 18) (some (.iconst (-1), 1)) none) (cond (Nat.beq pc 19) (some (.ireturn, 1)) none))))
def q_gX9_split (pc : Nat) : Option (Instr × Nat) := cond (Nat.ble pc 38) (cond (Nat.ble pc 18) (cond (Nat.ble pc 9) (cond (Nat.ble pc 2) (cond (Nat.ble pc 0) (cond (Nat.beq pc 0) (some (.iload_n 1, 1)) none) (cond (Nat.ble pc 1) (cond (Nat.beq pc 1) (some (.i2l, 1)) none) (cond (Nat.beq pc 2) (some (.lload_n 2, 1)) none))) (cond (Nat.ble pc 3) (cond (Nat.beq pc 3) (some (.invokestatic 224, 3)) none) (cond (Nat.ble pc 6) (cond (Nat.beq pc 6) (some (.ifCond .eq 8, 3)) none) (cond (Nat.beq pc 9) (some (.iload 4, 2)) none)))) (cond (Nat.ble pc 15) (cond (Nat.ble pc 11) (cond (Nat.beq pc 11) (some (.ifCond .ge 5, 3)) none) (cond (Nat.ble pc 14) (cond (Nat.beq pc 14) (some (.iconst (-1), 1)) none) (cond (Nat.beq pc 15) (some (.ireturn, 1)) none))) (cond (Nat.ble pc 16) (cond (Nat.beq pc 16) (some (.aload_n 0, 1)) none) (cond (Nat.ble pc 17) (cond (Nat.beq pc 17) (some (.iload_n 1, 1)) none) (cond (Nat.beq pc 18) (some (.lload_n 2, 1)) none))))) (cond (Nat.ble pc 27) (cond (Nat.ble pc 23) (cond (Nat.ble pc 19) (cond (Nat.beq pc 19) (some (.invokevirtual 228, 3)) none) (cond (Nat.ble pc 22) (cond (Nat.beq pc 22) (some (.pop, 1)) none) (cond (Nat.beq pc 23) (some (.iconst 0, 1)) none))) (cond (Nat.ble pc 24) (cond (Nat.beq pc 24) (some (.istore 5, 2)) none) (cond (Nat.ble pc 26) (cond (Nat.beq pc 26) (some (.iconst 0, 1)) none) (cond (Nat.beq pc 27) (some (.istore 6, 2)) none)))) (cond (Nat.ble pc 32) (cond (Nat.ble pc 29) (cond (Nat.beq pc 29) (some (.iload 5, 2)) none) (cond (Nat.ble pc 31) (cond (Nat.beq pc 31) (some (.iload_n 1, 1)) none) (cond (Nat.beq pc 32) (some (.if_icmp .ge 52, 3)) none))) (cond (Nat.ble pc 35) (cond (Nat.beq pc 35) (some (.aload_n 0, 1)) none) (cond (Nat.ble pc 36) (cond (Nat.beq pc 36) (some (.iload 5, 2)) none) (cond (Nat.beq pc 38) (some (.iload_n 1, 1)) none)))))) (cond (Nat.ble pc 61) (cond (Nat.ble pc 49) (cond (Nat.ble pc 43) (cond (Nat.ble pc 39) (cond (Nat.beq pc 39) (some (.lload_n 2, 1)) none) (cond (Nat.ble pc 40) (cond (Nat.beq pc 40) (some (.invokevirtual 232, 3)) none) (cond (Nat.beq pc 43) (some (.istore 7, 2)) none))) (cond (Nat.ble pc 45) (cond (Nat.beq pc 45) (some (.iload 6, 2)) none) (cond (Nat.ble pc 47) (cond (Nat.beq pc 47) (some (.iload 4, 2)) none) (cond (Nat.beq pc 49) (some (.if_icmp .ne 6, 3)) none)))) (cond (Nat.ble pc 55) (cond (Nat.ble pc 52) (cond (Nat.beq pc 52) (some (.iload 7, 2)) none) (cond (Nat.ble pc 54) (cond (Nat.beq pc 54) (some (.ireturn, 1)) none) (cond (Nat.beq pc 55) (some (.iload 5, 2)) none))) (cond (Nat.ble pc 57) (cond (Nat.beq pc 57) (some (.iload 7, 2)) none) (cond (Nat.ble pc 59) (cond (Nat.beq pc 59) (some (.bipush (-5), 2)) none) (cond (Nat.beq pc 61) (some (.if_icmp .ne 7, 3)) none))))) (cond (Nat.ble pc 74) (cond (Nat.ble pc 68) (cond (Nat.ble pc 64) (cond (Nat.beq pc 64) (some (.iconst 1, 1)) none) (cond (Nat.ble pc 65) (cond (Nat.beq pc 65) (some (.goto 10, 3)) none) (cond (Nat.beq pc 68) (some (.aload_n 0, 1)) none))) (cond (Nat.ble pc 69) (cond (Nat.beq pc 69) (some (.getfield 68, 3)) none) (cond (Nat.ble pc 72) (cond (Nat.beq pc 72) (some (.iload 7, 2)) none) (cond (Nat.beq pc 74) (some (.iaload, 1)) none)))) (cond (Nat.ble pc 78) (cond (Nat.ble pc 75) (cond (Nat.beq pc 75) (some (.iadd, 1)) none) (cond (Nat.ble pc 76) (cond (Nat.beq pc 76) (some (.istore 5, 2)) none) (cond (Nat.beq pc 78) (some (.iinc 6 1, 3)) none))) (cond (Nat.ble pc 81) (cond (Nat.beq pc 81) (some (.goto (-52), 3)) none) (cond (Nat.ble pc 84) (cond (Nat.beq pc 84) (some (.bipush (-4), 2)) none) (cond (Nat.beq pc 86) (some (.ireturn, 1)) none))))))
def q_gX9_mayWork (pc : Nat) : Option (Instr × Nat) := cond (Nat.ble pc 12) (cond (Nat.ble pc 5) (cond (Nat.ble pc 1) (cond (Nat.ble pc 0) (cond (Nat.beq pc 0) (some (.aload_n 0, 1)) none) (cond (Nat.beq pc 1) (some (.getfield 53, 3)) none)) (cond (Nat.ble pc 4) (cond (Nat.beq pc 4) (some (.iload_n 1, 1)) none) (cond (Nat.beq pc 5) (some (.iaload, 1)) none))) (cond (Nat.ble pc 8) (cond (Nat.ble pc 6) (cond (Nat.beq pc 6) (some (.bipush (-4), 2)) none) (cond (Nat.beq pc 8) (some (.if_icmp .eq 20, 3)) none)) (cond (Nat.ble pc 11) (cond (Nat.beq pc 11) (some (.aload_n 0, 1)) none) (cond (Nat.beq pc 12) (some (.aload_n 0, 1)) none)))) (cond (Nat.ble pc 18) (cond (Nat.ble pc 16) (cond (Nat.ble pc 13) (cond (Nat.beq pc 13) (some (.getfield 53, 3)) none) (cond (Nat.beq pc 16) (some (.iload_n 1, 1)) none)) (cond (Nat.ble pc 17) (cond (Nat.beq pc 17) (some (.iaload, 1)) none) (cond (Nat.beq pc 18) (some (.invokevirtual 188, 3)) none))) (cond (Nat.ble pc 24) (cond (Nat.ble pc 21) (cond (Nat.beq pc 21) (some (.ifCond .eq 7, 3)) none) (cond (Nat.beq pc 24) (some (.iconst 1, 1)) none)) (cond (Nat.ble pc 25) (cond (Nat.beq pc 25) (some (.goto 4, 3)) none) (cond (Nat.ble pc 28) (cond (Nat.beq pc 28) (some (.iconst 0, 1)) none) (cond (Nat.beq pc 29) (some (.ireturn, 1)) none)))))
def q_gX9_works (pc : Nat) : Option (Instr × Nat) := cond (Nat.ble pc 134) (cond (Nat.ble pc 69) (cond (Nat.ble pc 34) (cond (Nat.ble pc 14) (cond (Nat.ble pc 6) (cond (Nat.ble pc 1) (cond (Nat.ble pc 0) (cond (Nat.beq pc 0) (some (.aload_n 0, 1)) none) (cond (Nat.beq pc 1) (some (.getfield 53, 3)) none)) (cond (Nat.ble pc 4) (cond (Nat.beq pc 4) (some (.iload_n 1, 1)) none) (cond (Nat.ble pc 5) (cond (Nat.beq pc 5) (some (.iaload, 1)) none) (cond (Nat.beq pc 6) (some (.istore 5, 2)) none)))) (cond (Nat.ble pc 9) (cond (Nat.ble pc 8) (cond (Nat.beq pc 8) (some (.aload_n 0, 1)) none) (cond (Nat.beq pc 9) (some (.iload_n 2, 1)) none)) (cond (Nat.ble pc 10) (cond (Nat.beq pc 10) (some (.lload_n 3, 1)) none) (cond (Nat.ble pc 11) (cond (Nat.beq pc 11) (some (.invokevirtual 228, 3)) none) (cond (Nat.beq pc 14) (some (.istore 6, 2)) none))))) (cond (Nat.ble pc 22) (cond (Nat.ble pc 18) (cond (Nat.ble pc 16) (cond (Nat.beq pc 16) (some (.iload 6, 2)) none) (cond (Nat.beq pc 18) (some (.iload 6, 2)) none)) (cond (Nat.ble pc 20) (cond (Nat.beq pc 20) (some (.aload_n 0, 1)) none) (cond (Nat.ble pc 21) (cond (Nat.beq pc 21) (some (.aload_n 0, 1)) none) (cond (Nat.beq pc 22) (some (.getfield 31, 3)) none)))) (cond (Nat.ble pc 28) (cond (Nat.ble pc 25) (cond (Nat.beq pc 25) (some (.iload 5, 2)) none) (cond (Nat.ble pc 27) (cond (Nat.beq pc 27) (some (.iaload, 1)) none) (cond (Nat.beq pc 28) (some (.invokevirtual 172, 3)) none))) (cond (Nat.ble pc 31) (cond (Nat.beq pc 31) (some (.imul, 1)) none) (cond (Nat.ble pc 32) (cond (Nat.beq pc 32) (some (.bipush 100, 2)) none) (cond (Nat.beq pc 34) (some (.idiv, 1)) none)))))) (cond (Nat.ble pc 49) (cond (Nat.ble pc 41) (cond (Nat.ble pc 36) (cond (Nat.ble pc 35) (cond (Nat.beq pc 35) (some (.iadd, 1)) none) (cond (Nat.beq pc 36) (some (.aload_n 0, 1)) none)) (cond (Nat.ble pc 37) (cond (Nat.beq pc 37) (some (.getfield 56, 3)) none) (cond (Nat.ble pc 40) (cond (Nat.beq pc 40) (some (.iload_n 1, 1)) none) (cond (Nat.beq pc 41) (some (.iaload, 1)) none)))) (cond (Nat.ble pc 45) (cond (Nat.ble pc 42) (cond (Nat.beq pc 42) (some (.iadd, 1)) none) (cond (Nat.ble pc 43) (cond (Nat.beq pc 43) (some (.istore 7, 2)) none) (cond (Nat.beq pc 45) (some (.iload 7, 2)) none))) (cond (Nat.ble pc 47) (cond (Nat.beq pc 47) (some (.aload_n 0, 1)) none) (cond (Nat.ble pc 48) (cond (Nat.beq pc 48) (some (.iconst 3, 1)) none) (cond (Nat.beq pc 49) (some (.invokevirtual 165, 3)) none))))) (cond (Nat.ble pc 58) (cond (Nat.ble pc 53) (cond (Nat.ble pc 52) (cond (Nat.beq pc 52) (some (.imul, 1)) none) (cond (Nat.beq pc 53) (some (.bipush 100, 2)) none)) (cond (Nat.ble pc 55) (cond (Nat.beq pc 55) (some (.idiv, 1)) none) (cond (Nat.ble pc 56) (cond (Nat.beq pc 56) (some (.istore 8, 2)) none) (cond (Nat.beq pc 58) (some (.aload_n 0, 1)) none)))) (cond (Nat.ble pc 63) (cond (Nat.ble pc 59) (cond (Nat.beq pc 59) (some (.dup, 1)) none) (cond (Nat.ble pc 60) (cond (Nat.beq pc 60) (some (.getfield 236, 3)) none) (cond (Nat.beq pc 63) (some (.iload 8, 2)) none))) (cond (Nat.ble pc 65) (cond (Nat.beq pc 65) (some (.iadd, 1)) none) (cond (Nat.ble pc 66) (cond (Nat.beq pc 66) (some (.putfield 236, 3)) none) (cond (Nat.beq pc 69) (some (.aload_n 0, 1)) none))))))) (cond (Nat.ble pc 103) (cond (Nat.ble pc 84) (cond (Nat.ble pc 76) (cond (Nat.ble pc 73) (cond (Nat.ble pc 70) (cond (Nat.beq pc 70) (some (.getfield 47, 3)) none) (cond (Nat.beq pc 73) (some (.iload_n 1, 1)) none)) (cond (Nat.ble pc 74) (cond (Nat.beq pc 74) (some (.dup2, 1)) none) (cond (Nat.ble pc 75) (cond (Nat.beq pc 75) (some (.iaload, 1)) none) (cond (Nat.beq pc 76) (some (.iload 7, 2)) none)))) (cond (Nat.ble pc 81) (cond (Nat.ble pc 78) (cond (Nat.beq pc 78) (some (.iload 8, 2)) none) (cond (Nat.ble pc 80) (cond (Nat.beq pc 80) (some (.isub, 1)) none) (cond (Nat.beq pc 81) (some (.iadd, 1)) none))) (cond (Nat.ble pc 82) (cond (Nat.beq pc 82) (some (.iastore, 1)) none) (cond (Nat.ble pc 83) (cond (Nat.beq pc 83) (some (.aload_n 0, 1)) none) (cond (Nat.beq pc 84) (some (.getfield 62, 3)) none))))) (cond (Nat.ble pc 93) (cond (Nat.ble pc 88) (cond (Nat.ble pc 87) (cond (Nat.beq pc 87) (some (.iload_n 1, 1)) none) (cond (Nat.beq pc 88) (some (.baload, 1)) none)) (cond (Nat.ble pc 89) (cond (Nat.beq pc 89) (some (.ifCond .ne 31, 3)) none) (cond (Nat.ble pc 92) (cond (Nat.beq pc 92) (some (.aload_n 0, 1)) none) (cond (Nat.beq pc 93) (some (.getfield 62, 3)) none)))) (cond (Nat.ble pc 98) (cond (Nat.ble pc 96) (cond (Nat.beq pc 96) (some (.iload_n 1, 1)) none) (cond (Nat.ble pc 97) (cond (Nat.beq pc 97) (some (.iconst 1, 1)) none) (cond (Nat.beq pc 98) (some (.bastore, 1)) none))) (cond (Nat.ble pc 99) (cond (Nat.beq pc 99) (some (.aload_n 0, 1)) none) (cond (Nat.ble pc 100) (cond (Nat.beq pc 100) (some (.getfield 47, 3)) none) (cond (Nat.beq pc 103) (some (.iload_n 1, 1)) none)))))) (cond (Nat.ble pc 118) (cond (Nat.ble pc 108) (cond (Nat.ble pc 105) (cond (Nat.ble pc 104) (cond (Nat.beq pc 104) (some (.dup2, 1)) none) (cond (Nat.beq pc 105) (some (.iaload, 1)) none)) (cond (Nat.ble pc 106) (cond (Nat.beq pc 106) (some (.aload_n 0, 1)) none) (cond (Nat.ble pc 107) (cond (Nat.beq pc 107) (some (.iconst 2, 1)) none) (cond (Nat.beq pc 108) (some (.invokevirtual 165, 3)) none)))) (cond (Nat.ble pc 115) (cond (Nat.ble pc 111) (cond (Nat.beq pc 111) (some (.aload_n 0, 1)) none) (cond (Nat.ble pc 112) (cond (Nat.beq pc 112) (some (.getfield 44, 3)) none) (cond (Nat.beq pc 115) (some (.iload_n 1, 1)) none))) (cond (Nat.ble pc 116) (cond (Nat.beq pc 116) (some (.iaload, 1)) none) (cond (Nat.ble pc 117) (cond (Nat.beq pc 117) (some (.imul, 1)) none) (cond (Nat.beq pc 118) (some (.isub, 1)) none))))) (cond (Nat.ble pc 125) (cond (Nat.ble pc 120) (cond (Nat.ble pc 119) (cond (Nat.beq pc 119) (some (.iastore, 1)) none) (cond (Nat.beq pc 120) (some (.iconst 0, 1)) none)) (cond (Nat.ble pc 121) (cond (Nat.beq pc 121) (some (.istore 9, 2)) none) (cond (Nat.ble pc 123) (cond (Nat.beq pc 123) (some (.iload 9, 2)) none) (cond (Nat.beq pc 125) (some (.iload_n 2, 1)) none)))) (cond (Nat.ble pc 130) (cond (Nat.ble pc 126) (cond (Nat.beq pc 126) (some (.if_icmp .ge 62, 3)) none) (cond (Nat.ble pc 129) (cond (Nat.beq pc 129) (some (.aload_n 0, 1)) none) (cond (Nat.beq pc 130) (some (.iload 9, 2)) none))) (cond (Nat.ble pc 132) (cond (Nat.beq pc 132) (some (.iload_n 2, 1)) none) (cond (Nat.ble pc 133) (cond (Nat.beq pc 133) (some (.lload_n 3, 1)) none) (cond (Nat.beq pc 134) (some (.invokevirtual 232, 3)) none)))))))) (cond (Nat.ble pc 208) (cond (Nat.ble pc 175) (cond (Nat.ble pc 156) (cond (Nat.ble pc 146) (cond (Nat.ble pc 139) (cond (Nat.ble pc 137) (cond (Nat.beq pc 137) (some (.istore 10, 2)) none) (cond (Nat.beq pc 139) (some (.iload 10, 2)) none)) (cond (Nat.ble pc 141) (cond (Nat.beq pc 141) (some (.bipush (-5), 2)) none) (cond (Nat.ble pc 143) (cond (Nat.beq pc 143) (some (.if_icmp .ne 19, 3)) none) (cond (Nat.beq pc 146) (some (.aload_n 0, 1)) none)))) (cond (Nat.ble pc 151) (cond (Nat.ble pc 147) (cond (Nat.beq pc 147) (some (.dup, 1)) none) (cond (Nat.ble pc 148) (cond (Nat.beq pc 148) (some (.getfield 239, 3)) none) (cond (Nat.beq pc 151) (some (.iconst 1, 1)) none))) (cond (Nat.ble pc 152) (cond (Nat.beq pc 152) (some (.iadd, 1)) none) (cond (Nat.ble pc 153) (cond (Nat.beq pc 153) (some (.putfield 239, 3)) none) (cond (Nat.beq pc 156) (some (.iinc 9 1, 3)) none))))) (cond (Nat.ble pc 168) (cond (Nat.ble pc 162) (cond (Nat.ble pc 159) (cond (Nat.beq pc 159) (some (.goto 26, 3)) none) (cond (Nat.beq pc 162) (some (.aload_n 0, 1)) none)) (cond (Nat.ble pc 163) (cond (Nat.beq pc 163) (some (.getfield 74, 3)) none) (cond (Nat.ble pc 166) (cond (Nat.beq pc 166) (some (.iload 10, 2)) none) (cond (Nat.beq pc 168) (some (.dup2, 1)) none)))) (cond (Nat.ble pc 171) (cond (Nat.ble pc 169) (cond (Nat.beq pc 169) (some (.iaload, 1)) none) (cond (Nat.ble pc 170) (cond (Nat.beq pc 170) (some (.iconst 1, 1)) none) (cond (Nat.beq pc 171) (some (.iadd, 1)) none))) (cond (Nat.ble pc 172) (cond (Nat.beq pc 172) (some (.iastore, 1)) none) (cond (Nat.ble pc 173) (cond (Nat.beq pc 173) (some (.iload 9, 2)) none) (cond (Nat.beq pc 175) (some (.aload_n 0, 1)) none)))))) (cond (Nat.ble pc 195) (cond (Nat.ble pc 183) (cond (Nat.ble pc 179) (cond (Nat.ble pc 176) (cond (Nat.beq pc 176) (some (.getfield 68, 3)) none) (cond (Nat.beq pc 179) (some (.iload 10, 2)) none)) (cond (Nat.ble pc 181) (cond (Nat.beq pc 181) (some (.iaload, 1)) none) (cond (Nat.ble pc 182) (cond (Nat.beq pc 182) (some (.iadd, 1)) none) (cond (Nat.beq pc 183) (some (.istore 9, 2)) none)))) (cond (Nat.ble pc 189) (cond (Nat.ble pc 185) (cond (Nat.beq pc 185) (some (.goto (-62), 3)) none) (cond (Nat.ble pc 188) (cond (Nat.beq pc 188) (some (.aload_n 0, 1)) none) (cond (Nat.beq pc 189) (some (.getfield 34, 3)) none))) (cond (Nat.ble pc 192) (cond (Nat.beq pc 192) (some (.iload 5, 2)) none) (cond (Nat.ble pc 194) (cond (Nat.beq pc 194) (some (.dup2, 1)) none) (cond (Nat.beq pc 195) (some (.iaload, 1)) none))))) (cond (Nat.ble pc 200) (cond (Nat.ble pc 197) (cond (Nat.ble pc 196) (cond (Nat.beq pc 196) (some (.iconst 1, 1)) none) (cond (Nat.beq pc 197) (some (.iadd, 1)) none)) (cond (Nat.ble pc 198) (cond (Nat.beq pc 198) (some (.iastore, 1)) none) (cond (Nat.ble pc 199) (cond (Nat.beq pc 199) (some (.aload_n 0, 1)) none) (cond (Nat.beq pc 200) (some (.getfield 59, 3)) none)))) (cond (Nat.ble pc 205) (cond (Nat.ble pc 203) (cond (Nat.beq pc 203) (some (.iload_n 1, 1)) none) (cond (Nat.ble pc 204) (cond (Nat.beq pc 204) (some (.dup2, 1)) none) (cond (Nat.beq pc 205) (some (.iaload, 1)) none))) (cond (Nat.ble pc 206) (cond (Nat.beq pc 206) (some (.iconst 1, 1)) none) (cond (Nat.ble pc 207) (cond (Nat.beq pc 207) (some (.iadd, 1)) none) (cond (Nat.beq pc 208) (some (.iastore, 1)) none))))))) (cond (Nat.ble pc 247) (cond (Nat.ble pc 226) (cond (Nat.ble pc 215) (cond (Nat.ble pc 210) (cond (Nat.ble pc 209) (cond (Nat.beq pc 209) (some (.aload_n 0, 1)) none) (cond (Nat.beq pc 210) (some (.dup, 1)) none)) (cond (Nat.ble pc 211) (cond (Nat.beq pc 211) (some (.getfield 242, 3)) none) (cond (Nat.ble pc 214) (cond (Nat.beq pc 214) (some (.iconst 1, 1)) none) (cond (Nat.beq pc 215) (some (.iadd, 1)) none)))) (cond (Nat.ble pc 221) (cond (Nat.ble pc 216) (cond (Nat.beq pc 216) (some (.putfield 242, 3)) none) (cond (Nat.ble pc 219) (cond (Nat.beq pc 219) (some (.iload 5, 2)) none) (cond (Nat.beq pc 221) (some (.bipush 6, 2)) none))) (cond (Nat.ble pc 223) (cond (Nat.beq pc 223) (some (.iadd, 1)) none) (cond (Nat.ble pc 224) (cond (Nat.beq pc 224) (some (.bipush 30, 2)) none) (cond (Nat.beq pc 226) (some (.if_icmp .ge 52, 3)) none))))) (cond (Nat.ble pc 235) (cond (Nat.ble pc 230) (cond (Nat.ble pc 229) (cond (Nat.beq pc 229) (some (.aload_n 0, 1)) none) (cond (Nat.beq pc 230) (some (.getfield 13, 3)) none)) (cond (Nat.ble pc 233) (cond (Nat.beq pc 233) (some (.iconst 1, 1)) none) (cond (Nat.ble pc 234) (cond (Nat.beq pc 234) (some (.iaload, 1)) none) (cond (Nat.beq pc 235) (some (.bipush (-4), 2)) none)))) (cond (Nat.ble pc 241) (cond (Nat.ble pc 237) (cond (Nat.beq pc 237) (some (.if_icmp .eq 41, 3)) none) (cond (Nat.ble pc 240) (cond (Nat.beq pc 240) (some (.aload_n 0, 1)) none) (cond (Nat.beq pc 241) (some (.getfield 34, 3)) none))) (cond (Nat.ble pc 244) (cond (Nat.beq pc 244) (some (.iload 5, 2)) none) (cond (Nat.ble pc 246) (cond (Nat.beq pc 246) (some (.iaload, 1)) none) (cond (Nat.beq pc 247) (some (.aload_n 0, 1)) none)))))) (cond (Nat.ble pc 264) (cond (Nat.ble pc 256) (cond (Nat.ble pc 251) (cond (Nat.ble pc 248) (cond (Nat.beq pc 248) (some (.getfield 34, 3)) none) (cond (Nat.beq pc 251) (some (.iload 5, 2)) none)) (cond (Nat.ble pc 253) (cond (Nat.beq pc 253) (some (.bipush 6, 2)) none) (cond (Nat.ble pc 255) (cond (Nat.beq pc 255) (some (.iadd, 1)) none) (cond (Nat.beq pc 256) (some (.iaload, 1)) none)))) (cond (Nat.ble pc 259) (cond (Nat.ble pc 257) (cond (Nat.beq pc 257) (some (.isub, 1)) none) (cond (Nat.ble pc 258) (cond (Nat.beq pc 258) (some (.aload_n 0, 1)) none) (cond (Nat.beq pc 259) (some (.getfield 13, 3)) none))) (cond (Nat.ble pc 262) (cond (Nat.beq pc 262) (some (.iconst 1, 1)) none) (cond (Nat.ble pc 263) (cond (Nat.beq pc 263) (some (.iaload, 1)) none) (cond (Nat.beq pc 264) (some (.if_icmp .lt 14, 3)) none))))) (cond (Nat.ble pc 275) (cond (Nat.ble pc 268) (cond (Nat.ble pc 267) (cond (Nat.beq pc 267) (some (.aload_n 0, 1)) none) (cond (Nat.beq pc 268) (some (.getfield 37, 3)) none)) (cond (Nat.ble pc 271) (cond (Nat.beq pc 271) (some (.iload 5, 2)) none) (cond (Nat.ble pc 273) (cond (Nat.beq pc 273) (some (.bipush 6, 2)) none) (cond (Nat.beq pc 275) (some (.iadd, 1)) none)))) (cond (Nat.ble pc 278) (cond (Nat.ble pc 276) (cond (Nat.beq pc 276) (some (.iconst 1, 1)) none) (cond (Nat.ble pc 277) (cond (Nat.beq pc 277) (some (.bastore, 1)) none) (cond (Nat.beq pc 278) (some (.iload 7, 2)) none))) (cond (Nat.ble pc 280) (cond (Nat.beq pc 280) (some (.iload 8, 2)) none) (cond (Nat.ble pc 282) (cond (Nat.beq pc 282) (some (.isub, 1)) none) (cond (Nat.beq pc 283) (some (.ireturn, 1)) none))))))))
def q_gX9_work (pc : Nat) : Option (Instr × Nat) := cond (Nat.ble pc 19) (cond (Nat.ble pc 8) (cond (Nat.ble pc 1) (cond (Nat.ble pc 0) (cond (Nat.beq pc 0) (some (.aload_n 0, 1)) none) (cond (Nat.beq pc 1) (some (.iload_n 1, 1)) none)) (cond (Nat.ble pc 2) (cond (Nat.beq pc 2) (some (.invokevirtual 192, 3)) none) (cond (Nat.ble pc 5) (cond (Nat.beq pc 5) (some (.ifCond .eq 12, 3)) none) (cond (Nat.beq pc 8) (some (.iload_n 2, 1)) none)))) (cond (Nat.ble pc 11) (cond (Nat.ble pc 9) (cond (Nat.beq pc 9) (some (.i2l, 1)) none) (cond (Nat.ble pc 10) (cond (Nat.beq pc 10) (some (.lload_n 3, 1)) none) (cond (Nat.beq pc 11) (some (.invokestatic 224, 3)) none))) (cond (Nat.ble pc 14) (cond (Nat.beq pc 14) (some (.ifCond .ne 6, 3)) none) (cond (Nat.ble pc 17) (cond (Nat.beq pc 17) (some (.ldc 197, 2)) none) (cond (Nat.beq pc 19) (some (.ireturn, 1)) none))))) (cond (Nat.ble pc 29) (cond (Nat.ble pc 22) (cond (Nat.ble pc 20) (cond (Nat.beq pc 20) (some (.aload_n 0, 1)) none) (cond (Nat.ble pc 21) (cond (Nat.beq pc 21) (some (.iload_n 1, 1)) none) (cond (Nat.beq pc 22) (some (.invokevirtual 245, 3)) none))) (cond (Nat.ble pc 25) (cond (Nat.beq pc 25) (some (.ifCond .eq 13, 3)) none) (cond (Nat.ble pc 28) (cond (Nat.beq pc 28) (some (.aload_n 0, 1)) none) (cond (Nat.beq pc 29) (some (.iload_n 1, 1)) none)))) (cond (Nat.ble pc 32) (cond (Nat.ble pc 30) (cond (Nat.beq pc 30) (some (.iload_n 2, 1)) none) (cond (Nat.ble pc 31) (cond (Nat.beq pc 31) (some (.lload_n 3, 1)) none) (cond (Nat.beq pc 32) (some (.invokevirtual 248, 3)) none))) (cond (Nat.ble pc 35) (cond (Nat.beq pc 35) (some (.goto 5, 3)) none) (cond (Nat.ble pc 38) (cond (Nat.beq pc 38) (some (.ldc 198, 2)) none) (cond (Nat.beq pc 40) (some (.ireturn, 1)) none)))))
def q_gX9_slates (pc : Nat) : Option (Instr × Nat) := cond (Nat.ble pc 9) (cond (Nat.ble pc 3) (cond (Nat.ble pc 1) (cond (Nat.ble pc 0) (cond (Nat.beq pc 0) (some (.iload_n 1, 1)) none) (cond (Nat.beq pc 1) (some (.i2l, 1)) none)) (cond (Nat.ble pc 2) (cond (Nat.beq pc 2) (some (.lconst 0, 1)) none) (cond (Nat.beq pc 3) (some (.aload_n 0, 1)) none))) (cond (Nat.ble pc 7) (cond (Nat.ble pc 4) (cond (Nat.beq pc 4) (some (.getfield 215, 3)) none) (cond (Nat.beq pc 7) (some (.iconst 1, 1)) none)) (cond (Nat.ble pc 8) (cond (Nat.beq pc 8) (some (.isub, 1)) none) (cond (Nat.beq pc 9) (some (.i2l, 1)) none)))) (cond (Nat.ble pc 17) (cond (Nat.ble pc 13) (cond (Nat.ble pc 10) (cond (Nat.beq pc 10) (some (.invokestatic 96, 3)) none) (cond (Nat.beq pc 13) (some (.ifCond .eq 12, 3)) none)) (cond (Nat.ble pc 16) (cond (Nat.beq pc 16) (some (.aload_n 0, 1)) none) (cond (Nat.beq pc 17) (some (.getfield 74, 3)) none))) (cond (Nat.ble pc 21) (cond (Nat.ble pc 20) (cond (Nat.beq pc 20) (some (.iload_n 1, 1)) none) (cond (Nat.beq pc 21) (some (.iaload, 1)) none)) (cond (Nat.ble pc 22) (cond (Nat.beq pc 22) (some (.goto 4, 3)) none) (cond (Nat.ble pc 25) (cond (Nat.beq pc 25) (some (.iconst (-1), 1)) none) (cond (Nat.beq pc 26) (some (.ireturn, 1)) none)))))
def q_gX9_isSheet (pc : Nat) : Option (Instr × Nat) := cond (Nat.ble pc 13) (cond (Nat.ble pc 3) (cond (Nat.ble pc 1) (cond (Nat.ble pc 0) (cond (Nat.beq pc 0) (some (.iload_n 0, 1)) none) (cond (Nat.beq pc 1) (some (.i2l, 1)) none)) (cond (Nat.ble pc 2) (cond (Nat.beq pc 2) (some (.lconst 0, 1)) none) (cond (Nat.beq pc 3) (some (.ldc2_w 163, 3)) none))) (cond (Nat.ble pc 9) (cond (Nat.ble pc 6) (cond (Nat.beq pc 6) (some (.invokestatic 96, 3)) none) (cond (Nat.beq pc 9) (some (.ifCond .eq 19, 3)) none)) (cond (Nat.ble pc 12) (cond (Nat.beq pc 12) (some (.iload_n 1, 1)) none) (cond (Nat.beq pc 13) (some (.i2l, 1)) none)))) (cond (Nat.ble pc 21) (cond (Nat.ble pc 15) (cond (Nat.ble pc 14) (cond (Nat.beq pc 14) (some (.lconst 0, 1)) none) (cond (Nat.beq pc 15) (some (.ldc2_w 251, 3)) none)) (cond (Nat.ble pc 18) (cond (Nat.beq pc 18) (some (.invokestatic 96, 3)) none) (cond (Nat.beq pc 21) (some (.ifCond .eq 7, 3)) none))) (cond (Nat.ble pc 25) (cond (Nat.ble pc 24) (cond (Nat.beq pc 24) (some (.iconst 1, 1)) none) (cond (Nat.beq pc 25) (some (.goto 4, 3)) none)) (cond (Nat.ble pc 28) (cond (Nat.beq pc 28) (some (.iconst 0, 1)) none) (cond (Nat.beq pc 29) (some (.ireturn, 1)) none))))
def q_gX9_sheet (pc : Nat) : Option (Instr × Nat) := cond (Nat.ble pc 31) (cond (Nat.ble pc 16) (cond (Nat.ble pc 8) (cond (Nat.ble pc 1) (cond (Nat.ble pc 0) (cond (Nat.beq pc 0) (some (.iload_n 1, 1)) none) (cond (Nat.beq pc 1) (some (.iload_n 2, 1)) none)) (cond (Nat.ble pc 2) (cond (Nat.beq pc 2) (some (.invokestatic 253, 3)) none) (cond (Nat.ble pc 5) (cond (Nat.beq pc 5) (some (.ifCond .eq 9, 3)) none) (cond (Nat.beq pc 8) (some (.iload_n 3, 1)) none)))) (cond (Nat.ble pc 11) (cond (Nat.ble pc 9) (cond (Nat.beq pc 9) (some (.bipush 60, 2)) none) (cond (Nat.beq pc 11) (some (.if_icmp .le 5, 3)) none)) (cond (Nat.ble pc 14) (cond (Nat.beq pc 14) (some (.iconst (-1), 1)) none) (cond (Nat.ble pc 15) (cond (Nat.beq pc 15) (some (.ireturn, 1)) none) (cond (Nat.beq pc 16) (some (.iload_n 3, 1)) none))))) (cond (Nat.ble pc 24) (cond (Nat.ble pc 20) (cond (Nat.ble pc 17) (cond (Nat.beq pc 17) (some (.ifCond .ge 6, 3)) none) (cond (Nat.beq pc 20) (some (.bipush (-14), 2)) none)) (cond (Nat.ble pc 22) (cond (Nat.beq pc 22) (some (.ireturn, 1)) none) (cond (Nat.ble pc 23) (cond (Nat.beq pc 23) (some (.aload_n 0, 1)) none) (cond (Nat.beq pc 24) (some (.getfield 80, 3)) none)))) (cond (Nat.ble pc 28) (cond (Nat.ble pc 27) (cond (Nat.beq pc 27) (some (.iload_n 1, 1)) none) (cond (Nat.beq pc 28) (some (.iload_n 2, 1)) none)) (cond (Nat.ble pc 29) (cond (Nat.beq pc 29) (some (.iastore, 1)) none) (cond (Nat.ble pc 30) (cond (Nat.beq pc 30) (some (.aload_n 0, 1)) none) (cond (Nat.beq pc 31) (some (.getfield 83, 3)) none)))))) (cond (Nat.ble pc 48) (cond (Nat.ble pc 38) (cond (Nat.ble pc 35) (cond (Nat.ble pc 34) (cond (Nat.beq pc 34) (some (.iload_n 1, 1)) none) (cond (Nat.beq pc 35) (some (.iload_n 3, 1)) none)) (cond (Nat.ble pc 36) (cond (Nat.beq pc 36) (some (.iastore, 1)) none) (cond (Nat.ble pc 37) (cond (Nat.beq pc 37) (some (.iconst 0, 1)) none) (cond (Nat.beq pc 38) (some (.istore 4, 2)) none)))) (cond (Nat.ble pc 42) (cond (Nat.ble pc 40) (cond (Nat.beq pc 40) (some (.iload 4, 2)) none) (cond (Nat.beq pc 42) (some (.bipush 60, 2)) none)) (cond (Nat.ble pc 44) (cond (Nat.beq pc 44) (some (.if_icmp .ge 22, 3)) none) (cond (Nat.ble pc 47) (cond (Nat.beq pc 47) (some (.aload_n 0, 1)) none) (cond (Nat.beq pc 48) (some (.getfield 86, 3)) none))))) (cond (Nat.ble pc 57) (cond (Nat.ble pc 53) (cond (Nat.ble pc 51) (cond (Nat.beq pc 51) (some (.bipush 60, 2)) none) (cond (Nat.beq pc 53) (some (.iload_n 1, 1)) none)) (cond (Nat.ble pc 54) (cond (Nat.beq pc 54) (some (.imul, 1)) none) (cond (Nat.ble pc 55) (cond (Nat.beq pc 55) (some (.iload 4, 2)) none) (cond (Nat.beq pc 57) (some (.iadd, 1)) none)))) (cond (Nat.ble pc 60) (cond (Nat.ble pc 58) (cond (Nat.beq pc 58) (some (.lconst 0, 1)) none) (cond (Nat.ble pc 59) (cond (Nat.beq pc 59) (some (.lastore, 1)) none) (cond (Nat.beq pc 60) (some (.iinc 4 1, 3)) none))) (cond (Nat.ble pc 63) (cond (Nat.beq pc 63) (some (.goto (-23), 3)) none) (cond (Nat.ble pc 66) (cond (Nat.beq pc 66) (some (.iconst 1, 1)) none) (cond (Nat.beq pc 67) (some (.ireturn, 1)) none))))))
def q_gX9_lay (pc : Nat) : Option (Instr × Nat) := cond (Nat.ble pc 46) (cond (Nat.ble pc 24) (cond (Nat.ble pc 10) (cond (Nat.ble pc 2) (cond (Nat.ble pc 0) (cond (Nat.beq pc 0) (some (.iload_n 1, 1)) none) (cond (Nat.ble pc 1) (cond (Nat.beq pc 1) (some (.iconst 0, 1)) none) (cond (Nat.beq pc 2) (some (.invokestatic 253, 3)) none))) (cond (Nat.ble pc 8) (cond (Nat.ble pc 5) (cond (Nat.beq pc 5) (some (.ifCond .ne 5, 3)) none) (cond (Nat.beq pc 8) (some (.iconst (-1), 1)) none)) (cond (Nat.ble pc 9) (cond (Nat.beq pc 9) (some (.ireturn, 1)) none) (cond (Nat.beq pc 10) (some (.aload_n 0, 1)) none)))) (cond (Nat.ble pc 16) (cond (Nat.ble pc 14) (cond (Nat.ble pc 11) (cond (Nat.beq pc 11) (some (.getfield 80, 3)) none) (cond (Nat.beq pc 14) (some (.iload_n 1, 1)) none)) (cond (Nat.ble pc 15) (cond (Nat.beq pc 15) (some (.iaload, 1)) none) (cond (Nat.beq pc 16) (some (.bipush (-4), 2)) none))) (cond (Nat.ble pc 21) (cond (Nat.ble pc 18) (cond (Nat.beq pc 18) (some (.if_icmp .ne 6, 3)) none) (cond (Nat.beq pc 21) (some (.bipush (-11), 2)) none)) (cond (Nat.ble pc 23) (cond (Nat.beq pc 23) (some (.ireturn, 1)) none) (cond (Nat.beq pc 24) (some (.iload_n 2, 1)) none))))) (cond (Nat.ble pc 33) (cond (Nat.ble pc 27) (cond (Nat.ble pc 25) (cond (Nat.beq pc 25) (some (.i2l, 1)) none) (cond (Nat.ble pc 26) (cond (Nat.beq pc 26) (some (.lconst 0, 1)) none) (cond (Nat.beq pc 27) (some (.aload_n 0, 1)) none))) (cond (Nat.ble pc 31) (cond (Nat.ble pc 28) (cond (Nat.beq pc 28) (some (.getfield 83, 3)) none) (cond (Nat.beq pc 31) (some (.iload_n 1, 1)) none)) (cond (Nat.ble pc 32) (cond (Nat.beq pc 32) (some (.iaload, 1)) none) (cond (Nat.beq pc 33) (some (.iconst 1, 1)) none)))) (cond (Nat.ble pc 39) (cond (Nat.ble pc 35) (cond (Nat.ble pc 34) (cond (Nat.beq pc 34) (some (.isub, 1)) none) (cond (Nat.beq pc 35) (some (.i2l, 1)) none)) (cond (Nat.ble pc 36) (cond (Nat.beq pc 36) (some (.invokestatic 96, 3)) none) (cond (Nat.beq pc 39) (some (.ifCond .ne 6, 3)) none))) (cond (Nat.ble pc 44) (cond (Nat.ble pc 42) (cond (Nat.beq pc 42) (some (.bipush (-12), 2)) none) (cond (Nat.beq pc 44) (some (.ireturn, 1)) none)) (cond (Nat.ble pc 45) (cond (Nat.beq pc 45) (some (.aload_n 0, 1)) none) (cond (Nat.beq pc 46) (some (.getfield 86, 3)) none)))))) (cond (Nat.ble pc 68) (cond (Nat.ble pc 56) (cond (Nat.ble pc 52) (cond (Nat.ble pc 49) (cond (Nat.beq pc 49) (some (.bipush 60, 2)) none) (cond (Nat.ble pc 51) (cond (Nat.beq pc 51) (some (.iload_n 1, 1)) none) (cond (Nat.beq pc 52) (some (.imul, 1)) none))) (cond (Nat.ble pc 54) (cond (Nat.ble pc 53) (cond (Nat.beq pc 53) (some (.iload_n 2, 1)) none) (cond (Nat.beq pc 54) (some (.iadd, 1)) none)) (cond (Nat.ble pc 55) (cond (Nat.beq pc 55) (some (.aload_n 0, 1)) none) (cond (Nat.beq pc 56) (some (.getfield 80, 3)) none)))) (cond (Nat.ble pc 64) (cond (Nat.ble pc 60) (cond (Nat.ble pc 59) (cond (Nat.beq pc 59) (some (.iload_n 1, 1)) none) (cond (Nat.beq pc 60) (some (.iaload, 1)) none)) (cond (Nat.ble pc 61) (cond (Nat.beq pc 61) (some (.ifCond .ne 10, 3)) none) (cond (Nat.beq pc 64) (some (.lload_n 3, 1)) none))) (cond (Nat.ble pc 66) (cond (Nat.ble pc 65) (cond (Nat.beq pc 65) (some (.l2i, 1)) none) (cond (Nat.beq pc 66) (some (.i2b, 1)) none)) (cond (Nat.ble pc 67) (cond (Nat.beq pc 67) (some (.i2l, 1)) none) (cond (Nat.beq pc 68) (some (.goto 21, 3)) none))))) (cond (Nat.ble pc 81) (cond (Nat.ble pc 75) (cond (Nat.ble pc 71) (cond (Nat.beq pc 71) (some (.aload_n 0, 1)) none) (cond (Nat.ble pc 72) (cond (Nat.beq pc 72) (some (.getfield 80, 3)) none) (cond (Nat.beq pc 75) (some (.iload_n 1, 1)) none))) (cond (Nat.ble pc 77) (cond (Nat.ble pc 76) (cond (Nat.beq pc 76) (some (.iaload, 1)) none) (cond (Nat.beq pc 77) (some (.iconst 1, 1)) none)) (cond (Nat.ble pc 78) (cond (Nat.beq pc 78) (some (.if_icmp .ne 10, 3)) none) (cond (Nat.beq pc 81) (some (.lload_n 3, 1)) none)))) (cond (Nat.ble pc 85) (cond (Nat.ble pc 83) (cond (Nat.ble pc 82) (cond (Nat.beq pc 82) (some (.l2i, 1)) none) (cond (Nat.beq pc 83) (some (.i2s, 1)) none)) (cond (Nat.ble pc 84) (cond (Nat.beq pc 84) (some (.i2l, 1)) none) (cond (Nat.beq pc 85) (some (.goto 4, 3)) none))) (cond (Nat.ble pc 89) (cond (Nat.ble pc 88) (cond (Nat.beq pc 88) (some (.lload_n 3, 1)) none) (cond (Nat.beq pc 89) (some (.lastore, 1)) none)) (cond (Nat.ble pc 90) (cond (Nat.beq pc 90) (some (.iconst 1, 1)) none) (cond (Nat.beq pc 91) (some (.ireturn, 1)) none))))))
def q_gX9_haul (pc : Nat) : Option (Instr × Nat) := cond (Nat.ble pc 103) (cond (Nat.ble pc 53) (cond (Nat.ble pc 27) (cond (Nat.ble pc 11) (cond (Nat.ble pc 2) (cond (Nat.ble pc 0) (cond (Nat.beq pc 0) (some (.iload_n 1, 1)) none) (cond (Nat.ble pc 1) (cond (Nat.beq pc 1) (some (.iload_n 2, 1)) none) (cond (Nat.beq pc 2) (some (.invokestatic 253, 3)) none))) (cond (Nat.ble pc 8) (cond (Nat.ble pc 5) (cond (Nat.beq pc 5) (some (.ifCond .eq 16, 3)) none) (cond (Nat.beq pc 8) (some (.iload 4, 2)) none)) (cond (Nat.ble pc 10) (cond (Nat.beq pc 10) (some (.i2l, 1)) none) (cond (Nat.beq pc 11) (some (.lconst 0, 1)) none)))) (cond (Nat.ble pc 21) (cond (Nat.ble pc 15) (cond (Nat.ble pc 12) (cond (Nat.beq pc 12) (some (.ldc2_w 211, 3)) none) (cond (Nat.beq pc 15) (some (.invokestatic 96, 3)) none)) (cond (Nat.ble pc 18) (cond (Nat.beq pc 18) (some (.ifCond .ne 5, 3)) none) (cond (Nat.beq pc 21) (some (.iconst (-1), 1)) none))) (cond (Nat.ble pc 23) (cond (Nat.ble pc 22) (cond (Nat.beq pc 22) (some (.ireturn, 1)) none) (cond (Nat.beq pc 23) (some (.aload_n 0, 1)) none)) (cond (Nat.ble pc 24) (cond (Nat.beq pc 24) (some (.getfield 80, 3)) none) (cond (Nat.beq pc 27) (some (.iload_n 1, 1)) none))))) (cond (Nat.ble pc 38) (cond (Nat.ble pc 30) (cond (Nat.ble pc 28) (cond (Nat.beq pc 28) (some (.iaload, 1)) none) (cond (Nat.ble pc 29) (cond (Nat.beq pc 29) (some (.iload_n 2, 1)) none) (cond (Nat.beq pc 30) (some (.if_icmp .eq 22, 3)) none))) (cond (Nat.ble pc 34) (cond (Nat.ble pc 33) (cond (Nat.beq pc 33) (some (.aload_n 0, 1)) none) (cond (Nat.beq pc 34) (some (.getfield 80, 3)) none)) (cond (Nat.ble pc 37) (cond (Nat.beq pc 37) (some (.iload_n 1, 1)) none) (cond (Nat.beq pc 38) (some (.iaload, 1)) none)))) (cond (Nat.ble pc 46) (cond (Nat.ble pc 41) (cond (Nat.ble pc 39) (cond (Nat.beq pc 39) (some (.bipush (-4), 2)) none) (cond (Nat.beq pc 41) (some (.if_icmp .ne 8, 3)) none)) (cond (Nat.ble pc 44) (cond (Nat.beq pc 44) (some (.bipush (-11), 2)) none) (cond (Nat.beq pc 46) (some (.goto 5, 3)) none))) (cond (Nat.ble pc 51) (cond (Nat.ble pc 49) (cond (Nat.beq pc 49) (some (.bipush (-13), 2)) none) (cond (Nat.beq pc 51) (some (.ireturn, 1)) none)) (cond (Nat.ble pc 52) (cond (Nat.beq pc 52) (some (.iconst 0, 1)) none) (cond (Nat.beq pc 53) (some (.istore 5, 2)) none)))))) (cond (Nat.ble pc 76) (cond (Nat.ble pc 65) (cond (Nat.ble pc 59) (cond (Nat.ble pc 55) (cond (Nat.beq pc 55) (some (.iload 5, 2)) none) (cond (Nat.ble pc 57) (cond (Nat.beq pc 57) (some (.iload 4, 2)) none) (cond (Nat.beq pc 59) (some (.if_icmp .ge 148, 3)) none))) (cond (Nat.ble pc 63) (cond (Nat.ble pc 62) (cond (Nat.beq pc 62) (some (.iload_n 3, 1)) none) (cond (Nat.beq pc 63) (some (.i2l, 1)) none)) (cond (Nat.ble pc 64) (cond (Nat.beq pc 64) (some (.iconst 3, 1)) none) (cond (Nat.beq pc 65) (some (.iload 5, 2)) none)))) (cond (Nat.ble pc 70) (cond (Nat.ble pc 68) (cond (Nat.ble pc 67) (cond (Nat.beq pc 67) (some (.imul, 1)) none) (cond (Nat.beq pc 68) (some (.i2l, 1)) none)) (cond (Nat.ble pc 69) (cond (Nat.beq pc 69) (some (.ladd, 1)) none) (cond (Nat.beq pc 70) (some (.lstore 6, 2)) none))) (cond (Nat.ble pc 74) (cond (Nat.ble pc 72) (cond (Nat.beq pc 72) (some (.lload 6, 2)) none) (cond (Nat.beq pc 74) (some (.lconst 0, 1)) none)) (cond (Nat.ble pc 75) (cond (Nat.beq pc 75) (some (.lcmp, 1)) none) (cond (Nat.beq pc 76) (some (.ifCond .lt 20, 3)) none))))) (cond (Nat.ble pc 91) (cond (Nat.ble pc 85) (cond (Nat.ble pc 81) (cond (Nat.ble pc 79) (cond (Nat.beq pc 79) (some (.lload 6, 2)) none) (cond (Nat.beq pc 81) (some (.ldc2_w 163, 3)) none)) (cond (Nat.ble pc 84) (cond (Nat.beq pc 84) (some (.ladd, 1)) none) (cond (Nat.beq pc 85) (some (.aload_n 0, 1)) none))) (cond (Nat.ble pc 89) (cond (Nat.ble pc 86) (cond (Nat.beq pc 86) (some (.getfield 83, 3)) none) (cond (Nat.beq pc 89) (some (.iload_n 1, 1)) none)) (cond (Nat.ble pc 90) (cond (Nat.beq pc 90) (some (.iaload, 1)) none) (cond (Nat.beq pc 91) (some (.i2l, 1)) none)))) (cond (Nat.ble pc 98) (cond (Nat.ble pc 93) (cond (Nat.ble pc 92) (cond (Nat.beq pc 92) (some (.lcmp, 1)) none) (cond (Nat.beq pc 93) (some (.ifCond .le 6, 3)) none)) (cond (Nat.ble pc 96) (cond (Nat.beq pc 96) (some (.bipush (-12), 2)) none) (cond (Nat.beq pc 98) (some (.ireturn, 1)) none))) (cond (Nat.ble pc 101) (cond (Nat.ble pc 99) (cond (Nat.beq pc 99) (some (.bipush 60, 2)) none) (cond (Nat.beq pc 101) (some (.iload_n 1, 1)) none)) (cond (Nat.ble pc 102) (cond (Nat.beq pc 102) (some (.imul, 1)) none) (cond (Nat.beq pc 103) (some (.lload 6, 2)) none))))))) (cond (Nat.ble pc 155) (cond (Nat.ble pc 127) (cond (Nat.ble pc 115) (cond (Nat.ble pc 107) (cond (Nat.ble pc 105) (cond (Nat.beq pc 105) (some (.l2i, 1)) none) (cond (Nat.ble pc 106) (cond (Nat.beq pc 106) (some (.iadd, 1)) none) (cond (Nat.beq pc 107) (some (.istore 8, 2)) none))) (cond (Nat.ble pc 110) (cond (Nat.ble pc 109) (cond (Nat.beq pc 109) (some (.aload_n 0, 1)) none) (cond (Nat.beq pc 110) (some (.getfield 86, 3)) none)) (cond (Nat.ble pc 113) (cond (Nat.beq pc 113) (some (.iload 8, 2)) none) (cond (Nat.beq pc 115) (some (.laload, 1)) none)))) (cond (Nat.ble pc 121) (cond (Nat.ble pc 118) (cond (Nat.ble pc 116) (cond (Nat.beq pc 116) (some (.lstore 9, 2)) none) (cond (Nat.beq pc 118) (some (.lload 9, 2)) none)) (cond (Nat.ble pc 120) (cond (Nat.beq pc 120) (some (.lconst 0, 1)) none) (cond (Nat.beq pc 121) (some (.aload_n 0, 1)) none))) (cond (Nat.ble pc 125) (cond (Nat.ble pc 122) (cond (Nat.beq pc 122) (some (.getfield 179, 3)) none) (cond (Nat.beq pc 125) (some (.i2l, 1)) none)) (cond (Nat.ble pc 126) (cond (Nat.beq pc 126) (some (.lconst 1, 1)) none) (cond (Nat.beq pc 127) (some (.lsub, 1)) none))))) (cond (Nat.ble pc 142) (cond (Nat.ble pc 135) (cond (Nat.ble pc 131) (cond (Nat.ble pc 128) (cond (Nat.beq pc 128) (some (.invokestatic 96, 3)) none) (cond (Nat.beq pc 131) (some (.ifCond .eq 27, 3)) none)) (cond (Nat.ble pc 134) (cond (Nat.beq pc 134) (some (.aload_n 0, 1)) none) (cond (Nat.beq pc 135) (some (.getfield 86, 3)) none))) (cond (Nat.ble pc 140) (cond (Nat.ble pc 138) (cond (Nat.beq pc 138) (some (.iload 8, 2)) none) (cond (Nat.beq pc 140) (some (.iconst 1, 1)) none)) (cond (Nat.ble pc 141) (cond (Nat.beq pc 141) (some (.iadd, 1)) none) (cond (Nat.beq pc 142) (some (.laload, 1)) none)))) (cond (Nat.ble pc 149) (cond (Nat.ble pc 144) (cond (Nat.ble pc 143) (cond (Nat.beq pc 143) (some (.aload_n 0, 1)) none) (cond (Nat.beq pc 144) (some (.getfield 86, 3)) none)) (cond (Nat.ble pc 147) (cond (Nat.beq pc 147) (some (.iload 8, 2)) none) (cond (Nat.beq pc 149) (some (.iconst 2, 1)) none))) (cond (Nat.ble pc 151) (cond (Nat.ble pc 150) (cond (Nat.beq pc 150) (some (.iadd, 1)) none) (cond (Nat.beq pc 151) (some (.laload, 1)) none)) (cond (Nat.ble pc 152) (cond (Nat.beq pc 152) (some (.invokestatic 224, 3)) none) (cond (Nat.beq pc 155) (some (.ifCond .ne 6, 3)) none)))))) (cond (Nat.ble pc 182) (cond (Nat.ble pc 168) (cond (Nat.ble pc 161) (cond (Nat.ble pc 158) (cond (Nat.beq pc 158) (some (.bipush (-21), 2)) none) (cond (Nat.ble pc 160) (cond (Nat.beq pc 160) (some (.ireturn, 1)) none) (cond (Nat.beq pc 161) (some (.aload_n 0, 1)) none))) (cond (Nat.ble pc 164) (cond (Nat.ble pc 162) (cond (Nat.beq pc 162) (some (.lload 9, 2)) none) (cond (Nat.beq pc 164) (some (.l2i, 1)) none)) (cond (Nat.ble pc 165) (cond (Nat.beq pc 165) (some (.invokevirtual 245, 3)) none) (cond (Nat.beq pc 168) (some (.ifCond .ne 6, 3)) none)))) (cond (Nat.ble pc 175) (cond (Nat.ble pc 173) (cond (Nat.ble pc 171) (cond (Nat.beq pc 171) (some (.bipush (-22), 2)) none) (cond (Nat.beq pc 173) (some (.ireturn, 1)) none)) (cond (Nat.ble pc 174) (cond (Nat.beq pc 174) (some (.aload_n 0, 1)) none) (cond (Nat.beq pc 175) (some (.lload 9, 2)) none))) (cond (Nat.ble pc 178) (cond (Nat.ble pc 177) (cond (Nat.beq pc 177) (some (.l2i, 1)) none) (cond (Nat.beq pc 178) (some (.aload_n 0, 1)) none)) (cond (Nat.ble pc 179) (cond (Nat.beq pc 179) (some (.getfield 86, 3)) none) (cond (Nat.beq pc 182) (some (.iload 8, 2)) none))))) (cond (Nat.ble pc 194) (cond (Nat.ble pc 187) (cond (Nat.ble pc 185) (cond (Nat.ble pc 184) (cond (Nat.beq pc 184) (some (.iconst 1, 1)) none) (cond (Nat.beq pc 185) (some (.iadd, 1)) none)) (cond (Nat.ble pc 186) (cond (Nat.beq pc 186) (some (.laload, 1)) none) (cond (Nat.beq pc 187) (some (.l2i, 1)) none))) (cond (Nat.ble pc 189) (cond (Nat.ble pc 188) (cond (Nat.beq pc 188) (some (.aload_n 0, 1)) none) (cond (Nat.beq pc 189) (some (.getfield 86, 3)) none)) (cond (Nat.ble pc 192) (cond (Nat.beq pc 192) (some (.iload 8, 2)) none) (cond (Nat.beq pc 194) (some (.iconst 2, 1)) none)))) (cond (Nat.ble pc 200) (cond (Nat.ble pc 196) (cond (Nat.ble pc 195) (cond (Nat.beq pc 195) (some (.iadd, 1)) none) (cond (Nat.beq pc 196) (some (.laload, 1)) none)) (cond (Nat.ble pc 197) (cond (Nat.beq pc 197) (some (.invokevirtual 248, 3)) none) (cond (Nat.beq pc 200) (some (.pop, 1)) none))) (cond (Nat.ble pc 204) (cond (Nat.ble pc 201) (cond (Nat.beq pc 201) (some (.iinc 5 1, 3)) none) (cond (Nat.beq pc 204) (some (.goto (-149), 3)) none)) (cond (Nat.ble pc 207) (cond (Nat.beq pc 207) (some (.iload 4, 2)) none) (cond (Nat.beq pc 209) (some (.ireturn, 1)) none)))))))
def q_gX9_count (pc : Nat) : Option (Instr × Nat) := cond (Nat.ble pc 52) (cond (Nat.ble pc 24) (cond (Nat.ble pc 9) (cond (Nat.ble pc 3) (cond (Nat.ble pc 1) (cond (Nat.ble pc 0) (cond (Nat.beq pc 0) (some (.iconst 0, 1)) none) (cond (Nat.beq pc 1) (some (.istore_n 2, 1)) none)) (cond (Nat.ble pc 2) (cond (Nat.beq pc 2) (some (.iconst 0, 1)) none) (cond (Nat.beq pc 3) (some (.istore_n 3, 1)) none))) (cond (Nat.ble pc 5) (cond (Nat.ble pc 4) (cond (Nat.beq pc 4) (some (.iconst 0, 1)) none) (cond (Nat.beq pc 5) (some (.istore 4, 2)) none)) (cond (Nat.ble pc 7) (cond (Nat.beq pc 7) (some (.iload 4, 2)) none) (cond (Nat.beq pc 9) (some (.bipush 30, 2)) none)))) (cond (Nat.ble pc 16) (cond (Nat.ble pc 14) (cond (Nat.ble pc 11) (cond (Nat.beq pc 11) (some (.if_icmp .ge 47, 3)) none) (cond (Nat.beq pc 14) (some (.iload_n 2, 1)) none)) (cond (Nat.ble pc 15) (cond (Nat.beq pc 15) (some (.aload_n 0, 1)) none) (cond (Nat.beq pc 16) (some (.getfield 41, 3)) none))) (cond (Nat.ble pc 21) (cond (Nat.ble pc 19) (cond (Nat.beq pc 19) (some (.iload 4, 2)) none) (cond (Nat.beq pc 21) (some (.iaload, 1)) none)) (cond (Nat.ble pc 22) (cond (Nat.beq pc 22) (some (.bipush (-4), 2)) none) (cond (Nat.beq pc 24) (some (.if_icmp .ne 7, 3)) none))))) (cond (Nat.ble pc 36) (cond (Nat.ble pc 32) (cond (Nat.ble pc 28) (cond (Nat.ble pc 27) (cond (Nat.beq pc 27) (some (.iconst 0, 1)) none) (cond (Nat.beq pc 28) (some (.goto 4, 3)) none)) (cond (Nat.ble pc 31) (cond (Nat.beq pc 31) (some (.iconst 1, 1)) none) (cond (Nat.beq pc 32) (some (.iadd, 1)) none))) (cond (Nat.ble pc 34) (cond (Nat.ble pc 33) (cond (Nat.beq pc 33) (some (.istore_n 2, 1)) none) (cond (Nat.beq pc 34) (some (.iload_n 3, 1)) none)) (cond (Nat.ble pc 35) (cond (Nat.beq pc 35) (some (.aload_n 0, 1)) none) (cond (Nat.beq pc 36) (some (.getfield 37, 3)) none)))) (cond (Nat.ble pc 45) (cond (Nat.ble pc 41) (cond (Nat.ble pc 39) (cond (Nat.beq pc 39) (some (.iload 4, 2)) none) (cond (Nat.beq pc 41) (some (.baload, 1)) none)) (cond (Nat.ble pc 42) (cond (Nat.beq pc 42) (some (.ifCond .eq 7, 3)) none) (cond (Nat.beq pc 45) (some (.iconst 1, 1)) none))) (cond (Nat.ble pc 49) (cond (Nat.ble pc 46) (cond (Nat.beq pc 46) (some (.goto 4, 3)) none) (cond (Nat.beq pc 49) (some (.iconst 0, 1)) none)) (cond (Nat.ble pc 50) (cond (Nat.beq pc 50) (some (.iadd, 1)) none) (cond (Nat.ble pc 51) (cond (Nat.beq pc 51) (some (.istore_n 3, 1)) none) (cond (Nat.beq pc 52) (some (.iinc 4 1, 3)) none))))))) (cond (Nat.ble pc 132) (cond (Nat.ble pc 118) (cond (Nat.ble pc 112) (cond (Nat.ble pc 58) (cond (Nat.ble pc 55) (cond (Nat.beq pc 55) (some (.goto (-48), 3)) none) (cond (Nat.beq pc 58) (some (.iload_n 1, 1)) none)) (cond (Nat.ble pc 59) (cond (Nat.beq pc 59) (some (.tableswitch 97 0 9 #[53, 58, 63, 68, 73, 75, 77, 82, 87, 92], 53)) none) (cond (Nat.beq pc 112) (some (.aload_n 0, 1)) none))) (cond (Nat.ble pc 116) (cond (Nat.ble pc 113) (cond (Nat.beq pc 113) (some (.getfield 179, 3)) none) (cond (Nat.beq pc 116) (some (.ireturn, 1)) none)) (cond (Nat.ble pc 117) (cond (Nat.beq pc 117) (some (.aload_n 0, 1)) none) (cond (Nat.beq pc 118) (some (.getfield 215, 3)) none)))) (cond (Nat.ble pc 126) (cond (Nat.ble pc 122) (cond (Nat.ble pc 121) (cond (Nat.beq pc 121) (some (.ireturn, 1)) none) (cond (Nat.beq pc 122) (some (.aload_n 0, 1)) none)) (cond (Nat.ble pc 123) (cond (Nat.beq pc 123) (some (.getfield 208, 3)) none) (cond (Nat.beq pc 126) (some (.ireturn, 1)) none))) (cond (Nat.ble pc 128) (cond (Nat.ble pc 127) (cond (Nat.beq pc 127) (some (.aload_n 0, 1)) none) (cond (Nat.beq pc 128) (some (.invokevirtual 205, 3)) none)) (cond (Nat.ble pc 131) (cond (Nat.beq pc 131) (some (.ireturn, 1)) none) (cond (Nat.beq pc 132) (some (.iload_n 2, 1)) none))))) (cond (Nat.ble pc 142) (cond (Nat.ble pc 136) (cond (Nat.ble pc 134) (cond (Nat.ble pc 133) (cond (Nat.beq pc 133) (some (.ireturn, 1)) none) (cond (Nat.beq pc 134) (some (.iload_n 3, 1)) none)) (cond (Nat.ble pc 135) (cond (Nat.beq pc 135) (some (.ireturn, 1)) none) (cond (Nat.beq pc 136) (some (.aload_n 0, 1)) none))) (cond (Nat.ble pc 140) (cond (Nat.ble pc 137) (cond (Nat.beq pc 137) (some (.getfield 236, 3)) none) (cond (Nat.beq pc 140) (some (.ireturn, 1)) none)) (cond (Nat.ble pc 141) (cond (Nat.beq pc 141) (some (.aload_n 0, 1)) none) (cond (Nat.beq pc 142) (some (.getfield 242, 3)) none)))) (cond (Nat.ble pc 150) (cond (Nat.ble pc 146) (cond (Nat.ble pc 145) (cond (Nat.beq pc 145) (some (.ireturn, 1)) none) (cond (Nat.beq pc 146) (some (.aload_n 0, 1)) none)) (cond (Nat.ble pc 147) (cond (Nat.beq pc 147) (some (.getfield 239, 3)) none) (cond (Nat.beq pc 150) (some (.ireturn, 1)) none))) (cond (Nat.ble pc 152) (cond (Nat.ble pc 151) (cond (Nat.beq pc 151) (some (.aload_n 0, 1)) none) (cond (Nat.beq pc 152) (some (.invokevirtual 160, 3)) none)) (cond (Nat.ble pc 155) (cond (Nat.beq pc 155) (some (.ireturn, 1)) none) (cond (Nat.ble pc 156) (cond (Nat.beq pc 156) (some (.iconst (-1), 1)) none) (cond (Nat.beq pc 157) (some (.ireturn, 1)) none)))))))
def q_gJ6_compare_7cf53 (pc : Nat) : Option (Instr × Nat) := cond (Nat.ble pc 9) (cond (Nat.ble pc 2) (cond (Nat.ble pc 0) (cond (Nat.beq pc 0) (some (.iload_n 0, 1)) none) (cond (Nat.ble pc 1) (cond (Nat.beq pc 1) (some (.iload_n 1, 1)) none) (cond (Nat.beq pc 2) (some (.if_icmp .ge 7, 3)) none))) (cond (Nat.ble pc 5) (cond (Nat.beq pc 5) (some (.iconst (-1), 1)) none) (cond (Nat.ble pc 6) (cond (Nat.beq pc 6) (some (.goto 13, 3)) none) (cond (Nat.beq pc 9) (some (.iload_n 0, 1)) none)))) (cond (Nat.ble pc 14) (cond (Nat.ble pc 10) (cond (Nat.beq pc 10) (some (.iload_n 1, 1)) none) (cond (Nat.ble pc 11) (cond (Nat.beq pc 11) (some (.if_icmp .ne 7, 3)) none) (cond (Nat.beq pc 14) (some (.iconst 0, 1)) none))) (cond (Nat.ble pc 15) (cond (Nat.beq pc 15) (some (.goto 4, 3)) none) (cond (Nat.ble pc 18) (cond (Nat.beq pc 18) (some (.iconst 1, 1)) none) (cond (Nat.beq pc 19) (some (.ireturn, 1)) none))))
def q_gJ9_floorDiv_f86c9 (pc : Nat) : Option (Instr × Nat) := cond (Nat.ble pc 13) (cond (Nat.ble pc 5) (cond (Nat.ble pc 1) (cond (Nat.ble pc 0) (cond (Nat.beq pc 0) (some (.lload_n 0, 1)) none) (cond (Nat.beq pc 1) (some (.lload_n 2, 1)) none)) (cond (Nat.ble pc 2) (cond (Nat.beq pc 2) (some (.ldiv, 1)) none) (cond (Nat.ble pc 3) (cond (Nat.beq pc 3) (some (.lstore 4, 2)) none) (cond (Nat.beq pc 5) (some (.lload_n 0, 1)) none)))) (cond (Nat.ble pc 8) (cond (Nat.ble pc 6) (cond (Nat.beq pc 6) (some (.lload_n 2, 1)) none) (cond (Nat.ble pc 7) (cond (Nat.beq pc 7) (some (.lxor, 1)) none) (cond (Nat.beq pc 8) (some (.lconst 0, 1)) none))) (cond (Nat.ble pc 9) (cond (Nat.beq pc 9) (some (.lcmp, 1)) none) (cond (Nat.ble pc 10) (cond (Nat.beq pc 10) (some (.ifCond .ge 17, 3)) none) (cond (Nat.beq pc 13) (some (.lload 4, 2)) none))))) (cond (Nat.ble pc 19) (cond (Nat.ble pc 16) (cond (Nat.ble pc 15) (cond (Nat.beq pc 15) (some (.lload_n 2, 1)) none) (cond (Nat.beq pc 16) (some (.lmul, 1)) none)) (cond (Nat.ble pc 17) (cond (Nat.beq pc 17) (some (.lload_n 0, 1)) none) (cond (Nat.ble pc 18) (cond (Nat.beq pc 18) (some (.lcmp, 1)) none) (cond (Nat.beq pc 19) (some (.ifCond .eq 8, 3)) none)))) (cond (Nat.ble pc 25) (cond (Nat.ble pc 22) (cond (Nat.beq pc 22) (some (.lload 4, 2)) none) (cond (Nat.ble pc 24) (cond (Nat.beq pc 24) (some (.lconst 1, 1)) none) (cond (Nat.beq pc 25) (some (.lsub, 1)) none))) (cond (Nat.ble pc 26) (cond (Nat.beq pc 26) (some (.lreturn, 1)) none) (cond (Nat.ble pc 27) (cond (Nat.beq pc 27) (some (.lload 4, 2)) none) (cond (Nat.beq pc 29) (some (.lreturn, 1)) none)))))
def q_gJ9_max_7cf53 (pc : Nat) : Option (Instr × Nat) := cond (Nat.ble pc 2) (cond (Nat.ble pc 0) (cond (Nat.beq pc 0) (some (.iload_n 0, 1)) none) (cond (Nat.ble pc 1) (cond (Nat.beq pc 1) (some (.iload_n 1, 1)) none) (cond (Nat.beq pc 2) (some (.if_icmp .lt 7, 3)) none))) (cond (Nat.ble pc 6) (cond (Nat.ble pc 5) (cond (Nat.beq pc 5) (some (.iload_n 0, 1)) none) (cond (Nat.beq pc 6) (some (.goto 4, 3)) none)) (cond (Nat.ble pc 9) (cond (Nat.beq pc 9) (some (.iload_n 1, 1)) none) (cond (Nat.beq pc 10) (some (.ireturn, 1)) none)))
def q_gJ0_length_8abf5 (pc : Nat) : Option (Instr × Nat) := cond (Nat.ble pc 4) (cond (Nat.ble pc 0) (cond (Nat.beq pc 0) (some (.aload_n 0, 1)) none) (cond (Nat.ble pc 1) (cond (Nat.beq pc 1) (some (.getfield 9, 3)) none) (cond (Nat.beq pc 4) (some (.arraylength, 1)) none))) (cond (Nat.ble pc 6) (cond (Nat.ble pc 5) (cond (Nat.beq pc 5) (some (.aload_n 0, 1)) none) (cond (Nat.beq pc 6) (some (.invokevirtual 335, 3)) none)) (cond (Nat.ble pc 9) (cond (Nat.beq pc 9) (some (.ishr, 1)) none) (cond (Nat.beq pc 10) (some (.ireturn, 1)) none)))
def q_gJ0_charAt_5068e (pc : Nat) : Option (Instr × Nat) := cond (Nat.ble pc 11) (cond (Nat.ble pc 4) (cond (Nat.ble pc 0) (cond (Nat.beq pc 0) (some (.aload_n 0, 1)) none) (cond (Nat.ble pc 1) (cond (Nat.beq pc 1) (some (.invokevirtual 492, 3)) none) (cond (Nat.beq pc 4) (some (.ifCond .eq 12, 3)) none))) (cond (Nat.ble pc 7) (cond (Nat.beq pc 7) (some (.aload_n 0, 1)) none) (cond (Nat.ble pc 8) (cond (Nat.beq pc 8) (some (.getfield 9, 3)) none) (cond (Nat.beq pc 11) (some (.iload_n 1, 1)) none)))) (cond (Nat.ble pc 16) (cond (Nat.ble pc 12) (cond (Nat.beq pc 12) (some (.invokestatic 495, 3)) none) (cond (Nat.ble pc 15) (cond (Nat.beq pc 15) (some (.ireturn, 1)) none) (cond (Nat.beq pc 16) (some (.aload_n 0, 1)) none))) (cond (Nat.ble pc 20) (cond (Nat.ble pc 17) (cond (Nat.beq pc 17) (some (.getfield 9, 3)) none) (cond (Nat.beq pc 20) (some (.iload_n 1, 1)) none)) (cond (Nat.ble pc 21) (cond (Nat.beq pc 21) (some (.invokestatic 498, 3)) none) (cond (Nat.beq pc 24) (some (.ireturn, 1)) none))))
def q_gJ0_coder_7d493 (pc : Nat) : Option (Instr × Nat) := cond (Nat.ble pc 6) (cond (Nat.ble pc 0) (cond (Nat.beq pc 0) (some (.getstatic 38, 3)) none) (cond (Nat.ble pc 3) (cond (Nat.beq pc 3) (some (.ifCond .eq 10, 3)) none) (cond (Nat.beq pc 6) (some (.aload_n 0, 1)) none))) (cond (Nat.ble pc 10) (cond (Nat.ble pc 7) (cond (Nat.beq pc 7) (some (.getfield 15, 3)) none) (cond (Nat.beq pc 10) (some (.goto 4, 3)) none)) (cond (Nat.ble pc 13) (cond (Nat.beq pc 13) (some (.iconst 1, 1)) none) (cond (Nat.beq pc 14) (some (.ireturn, 1)) none)))
def q_gJ0_isLatin1_aae02 (pc : Nat) : Option (Instr × Nat) := cond (Nat.ble pc 7) (cond (Nat.ble pc 3) (cond (Nat.ble pc 0) (cond (Nat.beq pc 0) (some (.getstatic 38, 3)) none) (cond (Nat.beq pc 3) (some (.ifCond .eq 14, 3)) none)) (cond (Nat.ble pc 6) (cond (Nat.beq pc 6) (some (.aload_n 0, 1)) none) (cond (Nat.beq pc 7) (some (.getfield 15, 3)) none))) (cond (Nat.ble pc 13) (cond (Nat.ble pc 10) (cond (Nat.beq pc 10) (some (.ifCond .ne 7, 3)) none) (cond (Nat.beq pc 13) (some (.iconst 1, 1)) none)) (cond (Nat.ble pc 14) (cond (Nat.beq pc 14) (some (.goto 4, 3)) none) (cond (Nat.ble pc 17) (cond (Nat.beq pc 17) (some (.iconst 0, 1)) none) (cond (Nat.beq pc 18) (some (.ireturn, 1)) none))))
def q_gJ0_checkIndex_df160 (pc : Nat) : Option (Instr × Nat) := cond (Nat.ble pc 2) (cond (Nat.ble pc 0) (cond (Nat.beq pc 0) (some (.iload_n 0, 1)) none) (cond (Nat.ble pc 1) (cond (Nat.beq pc 1) (some (.iload_n 1, 1)) none) (cond (Nat.beq pc 2) (some (.getstatic 1053, 3)) none))) (cond (Nat.ble pc 5) (cond (Nat.beq pc 5) (some (.invokestatic 1059, 3)) none) (cond (Nat.ble pc 8) (cond (Nat.beq pc 8) (some (.pop, 1)) none) (cond (Nat.beq pc 9) (some (.return_, 1)) none)))
def q_gJ1_charAt_3b067 (pc : Nat) : Option (Instr × Nat) := cond (Nat.ble pc 6) (cond (Nat.ble pc 1) (cond (Nat.ble pc 0) (cond (Nat.beq pc 0) (some (.iload_n 1, 1)) none) (cond (Nat.beq pc 1) (some (.aload_n 0, 1)) none)) (cond (Nat.ble pc 2) (cond (Nat.beq pc 2) (some (.arraylength, 1)) none) (cond (Nat.ble pc 3) (cond (Nat.beq pc 3) (some (.invokestatic 9, 3)) none) (cond (Nat.beq pc 6) (some (.aload_n 0, 1)) none)))) (cond (Nat.ble pc 9) (cond (Nat.ble pc 7) (cond (Nat.beq pc 7) (some (.iload_n 1, 1)) none) (cond (Nat.ble pc 8) (cond (Nat.beq pc 8) (some (.baload, 1)) none) (cond (Nat.beq pc 9) (some (.sipush 255, 3)) none))) (cond (Nat.ble pc 12) (cond (Nat.beq pc 12) (some (.iand, 1)) none) (cond (Nat.ble pc 13) (cond (Nat.beq pc 13) (some (.i2c, 1)) none) (cond (Nat.beq pc 14) (some (.ireturn, 1)) none))))
def q_gJ2_getChar_3b067 (pc : Nat) : Option (Instr × Nat) := cond (Nat.ble pc 31) (cond (Nat.ble pc 15) (cond (Nat.ble pc 7) (cond (Nat.ble pc 3) (cond (Nat.ble pc 0) (cond (Nat.beq pc 0) (some (.getstatic 44, 3)) none) (cond (Nat.beq pc 3) (some (.ifCond .ne 25, 3)) none)) (cond (Nat.ble pc 6) (cond (Nat.beq pc 6) (some (.iload_n 1, 1)) none) (cond (Nat.beq pc 7) (some (.ifCond .lt 11, 3)) none))) (cond (Nat.ble pc 11) (cond (Nat.ble pc 10) (cond (Nat.beq pc 10) (some (.iload_n 1, 1)) none) (cond (Nat.beq pc 11) (some (.aload_n 0, 1)) none)) (cond (Nat.ble pc 12) (cond (Nat.beq pc 12) (some (.invokestatic 48, 3)) none) (cond (Nat.beq pc 15) (some (.if_icmp .lt 13, 3)) none)))) (cond (Nat.ble pc 24) (cond (Nat.ble pc 21) (cond (Nat.ble pc 18) (cond (Nat.beq pc 18) (some (.new 52, 3)) none) (cond (Nat.beq pc 21) (some (.dup, 1)) none)) (cond (Nat.ble pc 22) (cond (Nat.beq pc 22) (some (.ldc 54, 2)) none) (cond (Nat.beq pc 24) (some (.invokespecial 56, 3)) none))) (cond (Nat.ble pc 28) (cond (Nat.ble pc 27) (cond (Nat.beq pc 27) (some (.athrow, 1)) none) (cond (Nat.beq pc 28) (some (.iload_n 1, 1)) none)) (cond (Nat.ble pc 29) (cond (Nat.beq pc 29) (some (.iconst 1, 1)) none) (cond (Nat.ble pc 30) (cond (Nat.beq pc 30) (some (.ishl, 1)) none) (cond (Nat.beq pc 31) (some (.istore_n 1, 1)) none)))))) (cond (Nat.ble pc 46) (cond (Nat.ble pc 37) (cond (Nat.ble pc 33) (cond (Nat.ble pc 32) (cond (Nat.beq pc 32) (some (.aload_n 0, 1)) none) (cond (Nat.beq pc 33) (some (.iload_n 1, 1)) none)) (cond (Nat.ble pc 34) (cond (Nat.beq pc 34) (some (.iinc 1 1, 3)) none) (cond (Nat.beq pc 37) (some (.baload, 1)) none))) (cond (Nat.ble pc 41) (cond (Nat.ble pc 38) (cond (Nat.beq pc 38) (some (.sipush 255, 3)) none) (cond (Nat.beq pc 41) (some (.iand, 1)) none)) (cond (Nat.ble pc 42) (cond (Nat.beq pc 42) (some (.getstatic 59, 3)) none) (cond (Nat.ble pc 45) (cond (Nat.beq pc 45) (some (.ishl, 1)) none) (cond (Nat.beq pc 46) (some (.aload_n 0, 1)) none))))) (cond (Nat.ble pc 52) (cond (Nat.ble pc 48) (cond (Nat.ble pc 47) (cond (Nat.beq pc 47) (some (.iload_n 1, 1)) none) (cond (Nat.beq pc 48) (some (.baload, 1)) none)) (cond (Nat.ble pc 49) (cond (Nat.beq pc 49) (some (.sipush 255, 3)) none) (cond (Nat.beq pc 52) (some (.iand, 1)) none))) (cond (Nat.ble pc 56) (cond (Nat.ble pc 53) (cond (Nat.beq pc 53) (some (.getstatic 63, 3)) none) (cond (Nat.beq pc 56) (some (.ishl, 1)) none)) (cond (Nat.ble pc 57) (cond (Nat.beq pc 57) (some (.ior, 1)) none) (cond (Nat.ble pc 58) (cond (Nat.beq pc 58) (some (.i2c, 1)) none) (cond (Nat.beq pc 59) (some (.ireturn, 1)) none))))))
def q_gJ2_length_9d52b (pc : Nat) : Option (Instr × Nat) := cond (Nat.ble pc 1) (cond (Nat.ble pc 0) (cond (Nat.beq pc 0) (some (.aload_n 0, 1)) none) (cond (Nat.beq pc 1) (some (.arraylength, 1)) none)) (cond (Nat.ble pc 2) (cond (Nat.beq pc 2) (some (.iconst 1, 1)) none) (cond (Nat.ble pc 3) (cond (Nat.beq pc 3) (some (.ishr, 1)) none) (cond (Nat.beq pc 4) (some (.ireturn, 1)) none)))
def q_gJ2_charAt_3b067 (pc : Nat) : Option (Instr × Nat) := cond (Nat.ble pc 2) (cond (Nat.ble pc 0) (cond (Nat.beq pc 0) (some (.iload_n 1, 1)) none) (cond (Nat.ble pc 1) (cond (Nat.beq pc 1) (some (.aload_n 0, 1)) none) (cond (Nat.beq pc 2) (some (.invokestatic 67, 3)) none))) (cond (Nat.ble pc 6) (cond (Nat.ble pc 5) (cond (Nat.beq pc 5) (some (.aload_n 0, 1)) none) (cond (Nat.beq pc 6) (some (.iload_n 1, 1)) none)) (cond (Nat.ble pc 7) (cond (Nat.beq pc 7) (some (.invokestatic 71, 3)) none) (cond (Nat.beq pc 10) (some (.ireturn, 1)) none)))
def q_gJ2_checkIndex_2214a (pc : Nat) : Option (Instr × Nat) := cond (Nat.ble pc 1) (cond (Nat.ble pc 0) (cond (Nat.beq pc 0) (some (.iload_n 0, 1)) none) (cond (Nat.beq pc 1) (some (.aload_n 1, 1)) none)) (cond (Nat.ble pc 2) (cond (Nat.beq pc 2) (some (.invokestatic 48, 3)) none) (cond (Nat.ble pc 5) (cond (Nat.beq pc 5) (some (.invokestatic 414, 3)) none) (cond (Nat.beq pc 8) (some (.return_, 1)) none)))
def q_gJ7_fill_d0a16 (pc : Nat) : Option (Instr × Nat) := cond (Nat.ble pc 7) (cond (Nat.ble pc 2) (cond (Nat.ble pc 0) (cond (Nat.beq pc 0) (some (.iconst 0, 1)) none) (cond (Nat.ble pc 1) (cond (Nat.beq pc 1) (some (.istore_n 3, 1)) none) (cond (Nat.beq pc 2) (some (.aload_n 0, 1)) none))) (cond (Nat.ble pc 4) (cond (Nat.ble pc 3) (cond (Nat.beq pc 3) (some (.arraylength, 1)) none) (cond (Nat.beq pc 4) (some (.istore 4, 2)) none)) (cond (Nat.ble pc 6) (cond (Nat.beq pc 6) (some (.iload_n 3, 1)) none) (cond (Nat.beq pc 7) (some (.iload 4, 2)) none)))) (cond (Nat.ble pc 14) (cond (Nat.ble pc 12) (cond (Nat.ble pc 9) (cond (Nat.beq pc 9) (some (.if_icmp .ge 13, 3)) none) (cond (Nat.beq pc 12) (some (.aload_n 0, 1)) none)) (cond (Nat.ble pc 13) (cond (Nat.beq pc 13) (some (.iload_n 3, 1)) none) (cond (Nat.beq pc 14) (some (.lload_n 1, 1)) none))) (cond (Nat.ble pc 16) (cond (Nat.ble pc 15) (cond (Nat.beq pc 15) (some (.lastore, 1)) none) (cond (Nat.beq pc 16) (some (.iinc 3 1, 3)) none)) (cond (Nat.ble pc 19) (cond (Nat.beq pc 19) (some (.goto (-13), 3)) none) (cond (Nat.beq pc 22) (some (.return_, 1)) none))))
def q_gJ7_fill_53178 (pc : Nat) : Option (Instr × Nat) := cond (Nat.ble pc 6) (cond (Nat.ble pc 2) (cond (Nat.ble pc 0) (cond (Nat.beq pc 0) (some (.iconst 0, 1)) none) (cond (Nat.ble pc 1) (cond (Nat.beq pc 1) (some (.istore_n 2, 1)) none) (cond (Nat.beq pc 2) (some (.aload_n 0, 1)) none))) (cond (Nat.ble pc 4) (cond (Nat.ble pc 3) (cond (Nat.beq pc 3) (some (.arraylength, 1)) none) (cond (Nat.beq pc 4) (some (.istore_n 3, 1)) none)) (cond (Nat.ble pc 5) (cond (Nat.beq pc 5) (some (.iload_n 2, 1)) none) (cond (Nat.beq pc 6) (some (.iload_n 3, 1)) none)))) (cond (Nat.ble pc 12) (cond (Nat.ble pc 10) (cond (Nat.ble pc 7) (cond (Nat.beq pc 7) (some (.if_icmp .ge 13, 3)) none) (cond (Nat.beq pc 10) (some (.aload_n 0, 1)) none)) (cond (Nat.ble pc 11) (cond (Nat.beq pc 11) (some (.iload_n 2, 1)) none) (cond (Nat.beq pc 12) (some (.iload_n 1, 1)) none))) (cond (Nat.ble pc 14) (cond (Nat.ble pc 13) (cond (Nat.beq pc 13) (some (.iastore, 1)) none) (cond (Nat.beq pc 14) (some (.iinc 2 1, 3)) none)) (cond (Nat.ble pc 17) (cond (Nat.beq pc 17) (some (.goto (-12), 3)) none) (cond (Nat.beq pc 20) (some (.return_, 1)) none))))
def q_gJ3_checkIndex_8e157 (pc : Nat) : Option (Instr × Nat) := cond (Nat.ble pc 9) (cond (Nat.ble pc 4) (cond (Nat.ble pc 0) (cond (Nat.beq pc 0) (some (.iload_n 0, 1)) none) (cond (Nat.ble pc 1) (cond (Nat.beq pc 1) (some (.ifCond .lt 8, 3)) none) (cond (Nat.beq pc 4) (some (.iload_n 0, 1)) none))) (cond (Nat.ble pc 5) (cond (Nat.beq pc 5) (some (.iload_n 1, 1)) none) (cond (Nat.ble pc 6) (cond (Nat.beq pc 6) (some (.if_icmp .lt 10, 3)) none) (cond (Nat.beq pc 9) (some (.aload_n 2, 1)) none)))) (cond (Nat.ble pc 12) (cond (Nat.ble pc 10) (cond (Nat.beq pc 10) (some (.iload_n 0, 1)) none) (cond (Nat.ble pc 11) (cond (Nat.beq pc 11) (some (.iload_n 1, 1)) none) (cond (Nat.beq pc 12) (some (.invokestatic 95, 3)) none))) (cond (Nat.ble pc 15) (cond (Nat.beq pc 15) (some (.athrow, 1)) none) (cond (Nat.ble pc 16) (cond (Nat.beq pc 16) (some (.iload_n 0, 1)) none) (cond (Nat.beq pc 17) (some (.ireturn, 1)) none))))
def q_gL_law (pc : Nat) : Option (Instr × Nat) := cond (Nat.ble pc 580) (cond (Nat.ble pc 351) (cond (Nat.ble pc 240) (cond (Nat.ble pc 168) (cond (Nat.ble pc 140) (cond (Nat.ble pc 18) (cond (Nat.ble pc 8) (cond (Nat.ble pc 3) (cond (Nat.ble pc 0) (cond (Nat.beq pc 0) (some (.new 7, 3)) none) (cond (Nat.beq pc 3) (some (.dup, 1)) none)) (cond (Nat.ble pc 4) (cond (Nat.beq pc 4) (some (.invokespecial 9, 3)) none) (cond (Nat.ble pc 7) (cond (Nat.beq pc 7) (some (.astore_n 1, 1)) none) (cond (Nat.beq pc 8) (some (.new 10, 3)) none)))) (cond (Nat.ble pc 15) (cond (Nat.ble pc 11) (cond (Nat.beq pc 11) (some (.dup, 1)) none) (cond (Nat.ble pc 12) (cond (Nat.beq pc 12) (some (.invokespecial 12, 3)) none) (cond (Nat.beq pc 15) (some (.astore_n 2, 1)) none))) (cond (Nat.ble pc 16) (cond (Nat.beq pc 16) (some (.iconst 0, 1)) none) (cond (Nat.ble pc 17) (cond (Nat.beq pc 17) (some (.istore_n 3, 1)) none) (cond (Nat.beq pc 18) (some (.iload_n 3, 1)) none))))) (cond (Nat.ble pc 26) (cond (Nat.ble pc 21) (cond (Nat.ble pc 19) (cond (Nat.beq pc 19) (some (.aload_n 0, 1)) none) (cond (Nat.ble pc 20) (cond (Nat.beq pc 20) (some (.arraylength, 1)) none) (cond (Nat.beq pc 21) (some (.iconst 5, 1)) none))) (cond (Nat.ble pc 22) (cond (Nat.beq pc 22) (some (.isub, 1)) none) (cond (Nat.ble pc 23) (cond (Nat.beq pc 23) (some (.if_icmp .gt 1012, 3)) none) (cond (Nat.beq pc 26) (some (.aload_n 0, 1)) none)))) (cond (Nat.ble pc 29) (cond (Nat.ble pc 27) (cond (Nat.beq pc 27) (some (.iload_n 3, 1)) none) (cond (Nat.ble pc 28) (cond (Nat.beq pc 28) (some (.iaload, 1)) none) (cond (Nat.beq pc 29) (some (.bipush 31, 2)) none))) (cond (Nat.ble pc 31) (cond (Nat.beq pc 31) (some (.iand, 1)) none) (cond (Nat.ble pc 32) (cond (Nat.beq pc 32) (some (.tableswitch 997 0 22 #[108, 161, 184, 197, 210, 233, 276, 319, 362, 385, 418, 461, 514, 527, 540, 573, 636, 709, 782, 805, 848, 921, 974], 108)) none) (cond (Nat.beq pc 140) (some (.aload_n 1, 1)) none)))))) (cond (Nat.ble pc 152) (cond (Nat.ble pc 145) (cond (Nat.ble pc 142) (cond (Nat.ble pc 141) (cond (Nat.beq pc 141) (some (.aload_n 0, 1)) none) (cond (Nat.beq pc 142) (some (.iload_n 3, 1)) none)) (cond (Nat.ble pc 143) (cond (Nat.beq pc 143) (some (.iconst 1, 1)) none) (cond (Nat.ble pc 144) (cond (Nat.beq pc 144) (some (.iadd, 1)) none) (cond (Nat.beq pc 145) (some (.iaload, 1)) none)))) (cond (Nat.ble pc 149) (cond (Nat.ble pc 146) (cond (Nat.beq pc 146) (some (.i2l, 1)) none) (cond (Nat.ble pc 147) (cond (Nat.beq pc 147) (some (.bipush 32, 2)) none) (cond (Nat.beq pc 149) (some (.lshl, 1)) none))) (cond (Nat.ble pc 150) (cond (Nat.beq pc 150) (some (.aload_n 0, 1)) none) (cond (Nat.ble pc 151) (cond (Nat.beq pc 151) (some (.iload_n 3, 1)) none) (cond (Nat.beq pc 152) (some (.iconst 2, 1)) none))))) (cond (Nat.ble pc 160) (cond (Nat.ble pc 155) (cond (Nat.ble pc 153) (cond (Nat.beq pc 153) (some (.iadd, 1)) none) (cond (Nat.ble pc 154) (cond (Nat.beq pc 154) (some (.iaload, 1)) none) (cond (Nat.beq pc 155) (some (.i2l, 1)) none))) (cond (Nat.ble pc 156) (cond (Nat.beq pc 156) (some (.ldc2_w 13, 3)) none) (cond (Nat.ble pc 159) (cond (Nat.beq pc 159) (some (.land, 1)) none) (cond (Nat.beq pc 160) (some (.lor, 1)) none)))) (cond (Nat.ble pc 165) (cond (Nat.ble pc 161) (cond (Nat.beq pc 161) (some (.invokevirtual 15, 3)) none) (cond (Nat.ble pc 164) (cond (Nat.beq pc 164) (some (.aload_n 2, 1)) none) (cond (Nat.beq pc 165) (some (.aload_n 0, 1)) none))) (cond (Nat.ble pc 166) (cond (Nat.beq pc 166) (some (.iload_n 3, 1)) none) (cond (Nat.ble pc 167) (cond (Nat.beq pc 167) (some (.iconst 1, 1)) none) (cond (Nat.beq pc 168) (some (.iadd, 1)) none))))))) (cond (Nat.ble pc 198) (cond (Nat.ble pc 180) (cond (Nat.ble pc 174) (cond (Nat.ble pc 170) (cond (Nat.ble pc 169) (cond (Nat.beq pc 169) (some (.iaload, 1)) none) (cond (Nat.beq pc 170) (some (.i2l, 1)) none)) (cond (Nat.ble pc 171) (cond (Nat.beq pc 171) (some (.bipush 32, 2)) none) (cond (Nat.ble pc 173) (cond (Nat.beq pc 173) (some (.lshl, 1)) none) (cond (Nat.beq pc 174) (some (.aload_n 0, 1)) none)))) (cond (Nat.ble pc 177) (cond (Nat.ble pc 175) (cond (Nat.beq pc 175) (some (.iload_n 3, 1)) none) (cond (Nat.ble pc 176) (cond (Nat.beq pc 176) (some (.iconst 2, 1)) none) (cond (Nat.beq pc 177) (some (.iadd, 1)) none))) (cond (Nat.ble pc 178) (cond (Nat.beq pc 178) (some (.iaload, 1)) none) (cond (Nat.ble pc 179) (cond (Nat.beq pc 179) (some (.i2l, 1)) none) (cond (Nat.beq pc 180) (some (.ldc2_w 13, 3)) none))))) (cond (Nat.ble pc 192) (cond (Nat.ble pc 185) (cond (Nat.ble pc 183) (cond (Nat.beq pc 183) (some (.land, 1)) none) (cond (Nat.ble pc 184) (cond (Nat.beq pc 184) (some (.lor, 1)) none) (cond (Nat.beq pc 185) (some (.invokevirtual 19, 3)) none))) (cond (Nat.ble pc 188) (cond (Nat.beq pc 188) (some (.if_icmp .eq 841, 3)) none) (cond (Nat.ble pc 191) (cond (Nat.beq pc 191) (some (.iconst 0, 1)) none) (cond (Nat.beq pc 192) (some (.ireturn, 1)) none)))) (cond (Nat.ble pc 195) (cond (Nat.ble pc 193) (cond (Nat.beq pc 193) (some (.aload_n 1, 1)) none) (cond (Nat.ble pc 194) (cond (Nat.beq pc 194) (some (.aload_n 0, 1)) none) (cond (Nat.beq pc 195) (some (.iload_n 3, 1)) none))) (cond (Nat.ble pc 196) (cond (Nat.beq pc 196) (some (.iconst 1, 1)) none) (cond (Nat.ble pc 197) (cond (Nat.beq pc 197) (some (.iadd, 1)) none) (cond (Nat.beq pc 198) (some (.iaload, 1)) none)))))) (cond (Nat.ble pc 216) (cond (Nat.ble pc 206) (cond (Nat.ble pc 203) (cond (Nat.ble pc 199) (cond (Nat.beq pc 199) (some (.invokevirtual 20, 3)) none) (cond (Nat.ble pc 202) (cond (Nat.beq pc 202) (some (.aload_n 2, 1)) none) (cond (Nat.beq pc 203) (some (.aload_n 0, 1)) none))) (cond (Nat.ble pc 204) (cond (Nat.beq pc 204) (some (.iload_n 3, 1)) none) (cond (Nat.ble pc 205) (cond (Nat.beq pc 205) (some (.iconst 1, 1)) none) (cond (Nat.beq pc 206) (some (.iadd, 1)) none)))) (cond (Nat.ble pc 211) (cond (Nat.ble pc 207) (cond (Nat.beq pc 207) (some (.iaload, 1)) none) (cond (Nat.ble pc 208) (cond (Nat.beq pc 208) (some (.invokevirtual 24, 3)) none) (cond (Nat.beq pc 211) (some (.if_icmp .eq 818, 3)) none))) (cond (Nat.ble pc 214) (cond (Nat.beq pc 214) (some (.iconst 0, 1)) none) (cond (Nat.ble pc 215) (cond (Nat.beq pc 215) (some (.ireturn, 1)) none) (cond (Nat.beq pc 216) (some (.aload_n 1, 1)) none))))) (cond (Nat.ble pc 228) (cond (Nat.ble pc 221) (cond (Nat.ble pc 217) (cond (Nat.beq pc 217) (some (.invokevirtual 25, 3)) none) (cond (Nat.ble pc 220) (cond (Nat.beq pc 220) (some (.aload_n 2, 1)) none) (cond (Nat.beq pc 221) (some (.invokevirtual 29, 3)) none))) (cond (Nat.ble pc 224) (cond (Nat.beq pc 224) (some (.if_icmp .eq 805, 3)) none) (cond (Nat.ble pc 227) (cond (Nat.beq pc 227) (some (.iconst 0, 1)) none) (cond (Nat.beq pc 228) (some (.ireturn, 1)) none)))) (cond (Nat.ble pc 233) (cond (Nat.ble pc 229) (cond (Nat.beq pc 229) (some (.aload_n 1, 1)) none) (cond (Nat.ble pc 230) (cond (Nat.beq pc 230) (some (.invokevirtual 30, 3)) none) (cond (Nat.beq pc 233) (some (.aload_n 2, 1)) none))) (cond (Nat.ble pc 234) (cond (Nat.beq pc 234) (some (.invokevirtual 33, 3)) none) (cond (Nat.ble pc 237) (cond (Nat.beq pc 237) (some (.if_icmp .eq 792, 3)) none) (cond (Nat.beq pc 240) (some (.iconst 0, 1)) none)))))))) (cond (Nat.ble pc 294) (cond (Nat.ble pc 269) (cond (Nat.ble pc 253) (cond (Nat.ble pc 245) (cond (Nat.ble pc 242) (cond (Nat.ble pc 241) (cond (Nat.beq pc 241) (some (.ireturn, 1)) none) (cond (Nat.beq pc 242) (some (.aload_n 1, 1)) none)) (cond (Nat.ble pc 243) (cond (Nat.beq pc 243) (some (.aload_n 0, 1)) none) (cond (Nat.ble pc 244) (cond (Nat.beq pc 244) (some (.iload_n 3, 1)) none) (cond (Nat.beq pc 245) (some (.iconst 1, 1)) none)))) (cond (Nat.ble pc 248) (cond (Nat.ble pc 246) (cond (Nat.beq pc 246) (some (.iadd, 1)) none) (cond (Nat.ble pc 247) (cond (Nat.beq pc 247) (some (.iaload, 1)) none) (cond (Nat.beq pc 248) (some (.invokevirtual 34, 3)) none))) (cond (Nat.ble pc 251) (cond (Nat.beq pc 251) (some (.aload_n 2, 1)) none) (cond (Nat.ble pc 252) (cond (Nat.beq pc 252) (some (.aload_n 0, 1)) none) (cond (Nat.beq pc 253) (some (.iload_n 3, 1)) none))))) (cond (Nat.ble pc 263) (cond (Nat.ble pc 256) (cond (Nat.ble pc 254) (cond (Nat.beq pc 254) (some (.iconst 1, 1)) none) (cond (Nat.ble pc 255) (cond (Nat.beq pc 255) (some (.iadd, 1)) none) (cond (Nat.beq pc 256) (some (.iaload, 1)) none))) (cond (Nat.ble pc 257) (cond (Nat.beq pc 257) (some (.invokevirtual 37, 3)) none) (cond (Nat.ble pc 260) (cond (Nat.beq pc 260) (some (.if_icmp .eq 769, 3)) none) (cond (Nat.beq pc 263) (some (.iconst 0, 1)) none)))) (cond (Nat.ble pc 266) (cond (Nat.ble pc 264) (cond (Nat.beq pc 264) (some (.ireturn, 1)) none) (cond (Nat.ble pc 265) (cond (Nat.beq pc 265) (some (.aload_n 1, 1)) none) (cond (Nat.beq pc 266) (some (.aload_n 0, 1)) none))) (cond (Nat.ble pc 267) (cond (Nat.beq pc 267) (some (.iload_n 3, 1)) none) (cond (Nat.ble pc 268) (cond (Nat.beq pc 268) (some (.iconst 1, 1)) none) (cond (Nat.beq pc 269) (some (.iadd, 1)) none)))))) (cond (Nat.ble pc 280) (cond (Nat.ble pc 274) (cond (Nat.ble pc 271) (cond (Nat.ble pc 270) (cond (Nat.beq pc 270) (some (.iaload, 1)) none) (cond (Nat.beq pc 271) (some (.aload_n 0, 1)) none)) (cond (Nat.ble pc 272) (cond (Nat.beq pc 272) (some (.iload_n 3, 1)) none) (cond (Nat.ble pc 273) (cond (Nat.beq pc 273) (some (.iconst 2, 1)) none) (cond (Nat.beq pc 274) (some (.iadd, 1)) none)))) (cond (Nat.ble pc 277) (cond (Nat.ble pc 275) (cond (Nat.beq pc 275) (some (.iaload, 1)) none) (cond (Nat.ble pc 276) (cond (Nat.beq pc 276) (some (.aload_n 0, 1)) none) (cond (Nat.beq pc 277) (some (.iload_n 3, 1)) none))) (cond (Nat.ble pc 278) (cond (Nat.beq pc 278) (some (.iconst 3, 1)) none) (cond (Nat.ble pc 279) (cond (Nat.beq pc 279) (some (.iadd, 1)) none) (cond (Nat.beq pc 280) (some (.iaload, 1)) none))))) (cond (Nat.ble pc 288) (cond (Nat.ble pc 285) (cond (Nat.ble pc 281) (cond (Nat.beq pc 281) (some (.invokevirtual 38, 3)) none) (cond (Nat.ble pc 284) (cond (Nat.beq pc 284) (some (.aload_n 2, 1)) none) (cond (Nat.beq pc 285) (some (.aload_n 0, 1)) none))) (cond (Nat.ble pc 286) (cond (Nat.beq pc 286) (some (.iload_n 3, 1)) none) (cond (Nat.ble pc 287) (cond (Nat.beq pc 287) (some (.iconst 1, 1)) none) (cond (Nat.beq pc 288) (some (.iadd, 1)) none)))) (cond (Nat.ble pc 291) (cond (Nat.ble pc 289) (cond (Nat.beq pc 289) (some (.iaload, 1)) none) (cond (Nat.ble pc 290) (cond (Nat.beq pc 290) (some (.aload_n 0, 1)) none) (cond (Nat.beq pc 291) (some (.iload_n 3, 1)) none))) (cond (Nat.ble pc 292) (cond (Nat.beq pc 292) (some (.iconst 2, 1)) none) (cond (Nat.ble pc 293) (cond (Nat.beq pc 293) (some (.iadd, 1)) none) (cond (Nat.beq pc 294) (some (.iaload, 1)) none))))))) (cond (Nat.ble pc 321) (cond (Nat.ble pc 309) (cond (Nat.ble pc 299) (cond (Nat.ble pc 296) (cond (Nat.ble pc 295) (cond (Nat.beq pc 295) (some (.aload_n 0, 1)) none) (cond (Nat.beq pc 296) (some (.iload_n 3, 1)) none)) (cond (Nat.ble pc 297) (cond (Nat.beq pc 297) (some (.iconst 3, 1)) none) (cond (Nat.ble pc 298) (cond (Nat.beq pc 298) (some (.iadd, 1)) none) (cond (Nat.beq pc 299) (some (.iaload, 1)) none)))) (cond (Nat.ble pc 306) (cond (Nat.ble pc 300) (cond (Nat.beq pc 300) (some (.invokevirtual 42, 3)) none) (cond (Nat.ble pc 303) (cond (Nat.beq pc 303) (some (.if_icmp .eq 726, 3)) none) (cond (Nat.beq pc 306) (some (.iconst 0, 1)) none))) (cond (Nat.ble pc 307) (cond (Nat.beq pc 307) (some (.ireturn, 1)) none) (cond (Nat.ble pc 308) (cond (Nat.beq pc 308) (some (.aload_n 1, 1)) none) (cond (Nat.beq pc 309) (some (.aload_n 0, 1)) none))))) (cond (Nat.ble pc 315) (cond (Nat.ble pc 312) (cond (Nat.ble pc 310) (cond (Nat.beq pc 310) (some (.iload_n 3, 1)) none) (cond (Nat.ble pc 311) (cond (Nat.beq pc 311) (some (.iconst 1, 1)) none) (cond (Nat.beq pc 312) (some (.iadd, 1)) none))) (cond (Nat.ble pc 313) (cond (Nat.beq pc 313) (some (.iaload, 1)) none) (cond (Nat.ble pc 314) (cond (Nat.beq pc 314) (some (.aload_n 0, 1)) none) (cond (Nat.beq pc 315) (some (.iload_n 3, 1)) none)))) (cond (Nat.ble pc 318) (cond (Nat.ble pc 316) (cond (Nat.beq pc 316) (some (.iconst 2, 1)) none) (cond (Nat.ble pc 317) (cond (Nat.beq pc 317) (some (.iadd, 1)) none) (cond (Nat.beq pc 318) (some (.iaload, 1)) none))) (cond (Nat.ble pc 319) (cond (Nat.beq pc 319) (some (.aload_n 0, 1)) none) (cond (Nat.ble pc 320) (cond (Nat.beq pc 320) (some (.iload_n 3, 1)) none) (cond (Nat.beq pc 321) (some (.iconst 3, 1)) none)))))) (cond (Nat.ble pc 335) (cond (Nat.ble pc 329) (cond (Nat.ble pc 324) (cond (Nat.ble pc 322) (cond (Nat.beq pc 322) (some (.iadd, 1)) none) (cond (Nat.ble pc 323) (cond (Nat.beq pc 323) (some (.iaload, 1)) none) (cond (Nat.beq pc 324) (some (.invokevirtual 43, 3)) none))) (cond (Nat.ble pc 327) (cond (Nat.beq pc 327) (some (.aload_n 2, 1)) none) (cond (Nat.ble pc 328) (cond (Nat.beq pc 328) (some (.aload_n 0, 1)) none) (cond (Nat.beq pc 329) (some (.iload_n 3, 1)) none)))) (cond (Nat.ble pc 332) (cond (Nat.ble pc 330) (cond (Nat.beq pc 330) (some (.iconst 1, 1)) none) (cond (Nat.ble pc 331) (cond (Nat.beq pc 331) (some (.iadd, 1)) none) (cond (Nat.beq pc 332) (some (.iaload, 1)) none))) (cond (Nat.ble pc 333) (cond (Nat.beq pc 333) (some (.aload_n 0, 1)) none) (cond (Nat.ble pc 334) (cond (Nat.beq pc 334) (some (.iload_n 3, 1)) none) (cond (Nat.beq pc 335) (some (.iconst 2, 1)) none))))) (cond (Nat.ble pc 341) (cond (Nat.ble pc 338) (cond (Nat.ble pc 336) (cond (Nat.beq pc 336) (some (.iadd, 1)) none) (cond (Nat.ble pc 337) (cond (Nat.beq pc 337) (some (.iaload, 1)) none) (cond (Nat.beq pc 338) (some (.aload_n 0, 1)) none))) (cond (Nat.ble pc 339) (cond (Nat.beq pc 339) (some (.iload_n 3, 1)) none) (cond (Nat.ble pc 340) (cond (Nat.beq pc 340) (some (.iconst 3, 1)) none) (cond (Nat.beq pc 341) (some (.iadd, 1)) none)))) (cond (Nat.ble pc 346) (cond (Nat.ble pc 342) (cond (Nat.beq pc 342) (some (.iaload, 1)) none) (cond (Nat.ble pc 343) (cond (Nat.beq pc 343) (some (.invokevirtual 46, 3)) none) (cond (Nat.beq pc 346) (some (.if_icmp .eq 683, 3)) none))) (cond (Nat.ble pc 349) (cond (Nat.beq pc 349) (some (.iconst 0, 1)) none) (cond (Nat.ble pc 350) (cond (Nat.beq pc 350) (some (.ireturn, 1)) none) (cond (Nat.beq pc 351) (some (.aload_n 1, 1)) none))))))))) (cond (Nat.ble pc 462) (cond (Nat.ble pc 405) (cond (Nat.ble pc 376) (cond (Nat.ble pc 362) (cond (Nat.ble pc 356) (cond (Nat.ble pc 353) (cond (Nat.ble pc 352) (cond (Nat.beq pc 352) (some (.aload_n 0, 1)) none) (cond (Nat.beq pc 353) (some (.iload_n 3, 1)) none)) (cond (Nat.ble pc 354) (cond (Nat.beq pc 354) (some (.iconst 1, 1)) none) (cond (Nat.ble pc 355) (cond (Nat.beq pc 355) (some (.iadd, 1)) none) (cond (Nat.beq pc 356) (some (.iaload, 1)) none)))) (cond (Nat.ble pc 359) (cond (Nat.ble pc 357) (cond (Nat.beq pc 357) (some (.aload_n 0, 1)) none) (cond (Nat.ble pc 358) (cond (Nat.beq pc 358) (some (.iload_n 3, 1)) none) (cond (Nat.beq pc 359) (some (.iconst 2, 1)) none))) (cond (Nat.ble pc 360) (cond (Nat.beq pc 360) (some (.iadd, 1)) none) (cond (Nat.ble pc 361) (cond (Nat.beq pc 361) (some (.iaload, 1)) none) (cond (Nat.beq pc 362) (some (.aload_n 0, 1)) none))))) (cond (Nat.ble pc 370) (cond (Nat.ble pc 365) (cond (Nat.ble pc 363) (cond (Nat.beq pc 363) (some (.iload_n 3, 1)) none) (cond (Nat.ble pc 364) (cond (Nat.beq pc 364) (some (.iconst 3, 1)) none) (cond (Nat.beq pc 365) (some (.iadd, 1)) none))) (cond (Nat.ble pc 366) (cond (Nat.beq pc 366) (some (.iaload, 1)) none) (cond (Nat.ble pc 367) (cond (Nat.beq pc 367) (some (.invokevirtual 47, 3)) none) (cond (Nat.beq pc 370) (some (.aload_n 2, 1)) none)))) (cond (Nat.ble pc 373) (cond (Nat.ble pc 371) (cond (Nat.beq pc 371) (some (.aload_n 0, 1)) none) (cond (Nat.ble pc 372) (cond (Nat.beq pc 372) (some (.iload_n 3, 1)) none) (cond (Nat.beq pc 373) (some (.iconst 1, 1)) none))) (cond (Nat.ble pc 374) (cond (Nat.beq pc 374) (some (.iadd, 1)) none) (cond (Nat.ble pc 375) (cond (Nat.beq pc 375) (some (.iaload, 1)) none) (cond (Nat.beq pc 376) (some (.aload_n 0, 1)) none)))))) (cond (Nat.ble pc 389) (cond (Nat.ble pc 381) (cond (Nat.ble pc 378) (cond (Nat.ble pc 377) (cond (Nat.beq pc 377) (some (.iload_n 3, 1)) none) (cond (Nat.beq pc 378) (some (.iconst 2, 1)) none)) (cond (Nat.ble pc 379) (cond (Nat.beq pc 379) (some (.iadd, 1)) none) (cond (Nat.ble pc 380) (cond (Nat.beq pc 380) (some (.iaload, 1)) none) (cond (Nat.beq pc 381) (some (.aload_n 0, 1)) none)))) (cond (Nat.ble pc 384) (cond (Nat.ble pc 382) (cond (Nat.beq pc 382) (some (.iload_n 3, 1)) none) (cond (Nat.ble pc 383) (cond (Nat.beq pc 383) (some (.iconst 3, 1)) none) (cond (Nat.beq pc 384) (some (.iadd, 1)) none))) (cond (Nat.ble pc 385) (cond (Nat.beq pc 385) (some (.iaload, 1)) none) (cond (Nat.ble pc 386) (cond (Nat.beq pc 386) (some (.invokevirtual 50, 3)) none) (cond (Nat.beq pc 389) (some (.if_icmp .eq 640, 3)) none))))) (cond (Nat.ble pc 397) (cond (Nat.ble pc 394) (cond (Nat.ble pc 392) (cond (Nat.beq pc 392) (some (.iconst 0, 1)) none) (cond (Nat.ble pc 393) (cond (Nat.beq pc 393) (some (.ireturn, 1)) none) (cond (Nat.beq pc 394) (some (.aload_n 1, 1)) none))) (cond (Nat.ble pc 395) (cond (Nat.beq pc 395) (some (.aload_n 0, 1)) none) (cond (Nat.ble pc 396) (cond (Nat.beq pc 396) (some (.iload_n 3, 1)) none) (cond (Nat.beq pc 397) (some (.iconst 1, 1)) none)))) (cond (Nat.ble pc 400) (cond (Nat.ble pc 398) (cond (Nat.beq pc 398) (some (.iadd, 1)) none) (cond (Nat.ble pc 399) (cond (Nat.beq pc 399) (some (.iaload, 1)) none) (cond (Nat.beq pc 400) (some (.invokevirtual 51, 3)) none))) (cond (Nat.ble pc 403) (cond (Nat.beq pc 403) (some (.aload_n 2, 1)) none) (cond (Nat.ble pc 404) (cond (Nat.beq pc 404) (some (.aload_n 0, 1)) none) (cond (Nat.beq pc 405) (some (.iload_n 3, 1)) none))))))) (cond (Nat.ble pc 434) (cond (Nat.ble pc 420) (cond (Nat.ble pc 412) (cond (Nat.ble pc 407) (cond (Nat.ble pc 406) (cond (Nat.beq pc 406) (some (.iconst 1, 1)) none) (cond (Nat.beq pc 407) (some (.iadd, 1)) none)) (cond (Nat.ble pc 408) (cond (Nat.beq pc 408) (some (.iaload, 1)) none) (cond (Nat.ble pc 409) (cond (Nat.beq pc 409) (some (.invokevirtual 54, 3)) none) (cond (Nat.beq pc 412) (some (.if_icmp .eq 617, 3)) none)))) (cond (Nat.ble pc 417) (cond (Nat.ble pc 415) (cond (Nat.beq pc 415) (some (.iconst 0, 1)) none) (cond (Nat.ble pc 416) (cond (Nat.beq pc 416) (some (.ireturn, 1)) none) (cond (Nat.beq pc 417) (some (.aload_n 1, 1)) none))) (cond (Nat.ble pc 418) (cond (Nat.beq pc 418) (some (.aload_n 0, 1)) none) (cond (Nat.ble pc 419) (cond (Nat.beq pc 419) (some (.iload_n 3, 1)) none) (cond (Nat.beq pc 420) (some (.iconst 1, 1)) none))))) (cond (Nat.ble pc 426) (cond (Nat.ble pc 423) (cond (Nat.ble pc 421) (cond (Nat.beq pc 421) (some (.iadd, 1)) none) (cond (Nat.ble pc 422) (cond (Nat.beq pc 422) (some (.iaload, 1)) none) (cond (Nat.beq pc 423) (some (.aload_n 0, 1)) none))) (cond (Nat.ble pc 424) (cond (Nat.beq pc 424) (some (.iload_n 3, 1)) none) (cond (Nat.ble pc 425) (cond (Nat.beq pc 425) (some (.iconst 2, 1)) none) (cond (Nat.beq pc 426) (some (.iadd, 1)) none)))) (cond (Nat.ble pc 431) (cond (Nat.ble pc 427) (cond (Nat.beq pc 427) (some (.iaload, 1)) none) (cond (Nat.ble pc 428) (cond (Nat.beq pc 428) (some (.invokevirtual 55, 3)) none) (cond (Nat.beq pc 431) (some (.aload_n 2, 1)) none))) (cond (Nat.ble pc 432) (cond (Nat.beq pc 432) (some (.aload_n 0, 1)) none) (cond (Nat.ble pc 433) (cond (Nat.beq pc 433) (some (.iload_n 3, 1)) none) (cond (Nat.beq pc 434) (some (.iconst 1, 1)) none)))))) (cond (Nat.ble pc 450) (cond (Nat.ble pc 440) (cond (Nat.ble pc 437) (cond (Nat.ble pc 435) (cond (Nat.beq pc 435) (some (.iadd, 1)) none) (cond (Nat.ble pc 436) (cond (Nat.beq pc 436) (some (.iaload, 1)) none) (cond (Nat.beq pc 437) (some (.aload_n 0, 1)) none))) (cond (Nat.ble pc 438) (cond (Nat.beq pc 438) (some (.iload_n 3, 1)) none) (cond (Nat.ble pc 439) (cond (Nat.beq pc 439) (some (.iconst 2, 1)) none) (cond (Nat.beq pc 440) (some (.iadd, 1)) none)))) (cond (Nat.ble pc 445) (cond (Nat.ble pc 441) (cond (Nat.beq pc 441) (some (.iaload, 1)) none) (cond (Nat.ble pc 442) (cond (Nat.beq pc 442) (some (.invokevirtual 59, 3)) none) (cond (Nat.beq pc 445) (some (.if_icmp .eq 584, 3)) none))) (cond (Nat.ble pc 448) (cond (Nat.beq pc 448) (some (.iconst 0, 1)) none) (cond (Nat.ble pc 449) (cond (Nat.beq pc 449) (some (.ireturn, 1)) none) (cond (Nat.beq pc 450) (some (.aload_n 1, 1)) none))))) (cond (Nat.ble pc 456) (cond (Nat.ble pc 453) (cond (Nat.ble pc 451) (cond (Nat.beq pc 451) (some (.aload_n 0, 1)) none) (cond (Nat.ble pc 452) (cond (Nat.beq pc 452) (some (.iload_n 3, 1)) none) (cond (Nat.beq pc 453) (some (.iconst 1, 1)) none))) (cond (Nat.ble pc 454) (cond (Nat.beq pc 454) (some (.iadd, 1)) none) (cond (Nat.ble pc 455) (cond (Nat.beq pc 455) (some (.iaload, 1)) none) (cond (Nat.beq pc 456) (some (.aload_n 0, 1)) none)))) (cond (Nat.ble pc 459) (cond (Nat.ble pc 457) (cond (Nat.beq pc 457) (some (.iload_n 3, 1)) none) (cond (Nat.ble pc 458) (cond (Nat.beq pc 458) (some (.iconst 2, 1)) none) (cond (Nat.beq pc 459) (some (.iadd, 1)) none))) (cond (Nat.ble pc 460) (cond (Nat.beq pc 460) (some (.iaload, 1)) none) (cond (Nat.ble pc 461) (cond (Nat.beq pc 461) (some (.aload_n 0, 1)) none) (cond (Nat.beq pc 462) (some (.iload_n 3, 1)) none)))))))) (cond (Nat.ble pc 517) (cond (Nat.ble pc 491) (cond (Nat.ble pc 475) (cond (Nat.ble pc 469) (cond (Nat.ble pc 464) (cond (Nat.ble pc 463) (cond (Nat.beq pc 463) (some (.iconst 3, 1)) none) (cond (Nat.beq pc 464) (some (.iadd, 1)) none)) (cond (Nat.ble pc 465) (cond (Nat.beq pc 465) (some (.iaload, 1)) none) (cond (Nat.ble pc 466) (cond (Nat.beq pc 466) (some (.invokevirtual 60, 3)) none) (cond (Nat.beq pc 469) (some (.aload_n 2, 1)) none)))) (cond (Nat.ble pc 472) (cond (Nat.ble pc 470) (cond (Nat.beq pc 470) (some (.aload_n 0, 1)) none) (cond (Nat.ble pc 471) (cond (Nat.beq pc 471) (some (.iload_n 3, 1)) none) (cond (Nat.beq pc 472) (some (.iconst 1, 1)) none))) (cond (Nat.ble pc 473) (cond (Nat.beq pc 473) (some (.iadd, 1)) none) (cond (Nat.ble pc 474) (cond (Nat.beq pc 474) (some (.iaload, 1)) none) (cond (Nat.beq pc 475) (some (.aload_n 0, 1)) none))))) (cond (Nat.ble pc 481) (cond (Nat.ble pc 478) (cond (Nat.ble pc 476) (cond (Nat.beq pc 476) (some (.iload_n 3, 1)) none) (cond (Nat.ble pc 477) (cond (Nat.beq pc 477) (some (.iconst 2, 1)) none) (cond (Nat.beq pc 478) (some (.iadd, 1)) none))) (cond (Nat.ble pc 479) (cond (Nat.beq pc 479) (some (.iaload, 1)) none) (cond (Nat.ble pc 480) (cond (Nat.beq pc 480) (some (.aload_n 0, 1)) none) (cond (Nat.beq pc 481) (some (.iload_n 3, 1)) none)))) (cond (Nat.ble pc 484) (cond (Nat.ble pc 482) (cond (Nat.beq pc 482) (some (.iconst 3, 1)) none) (cond (Nat.ble pc 483) (cond (Nat.beq pc 483) (some (.iadd, 1)) none) (cond (Nat.beq pc 484) (some (.iaload, 1)) none))) (cond (Nat.ble pc 485) (cond (Nat.beq pc 485) (some (.invokevirtual 63, 3)) none) (cond (Nat.ble pc 488) (cond (Nat.beq pc 488) (some (.if_icmp .eq 541, 3)) none) (cond (Nat.beq pc 491) (some (.iconst 0, 1)) none)))))) (cond (Nat.ble pc 503) (cond (Nat.ble pc 497) (cond (Nat.ble pc 494) (cond (Nat.ble pc 492) (cond (Nat.beq pc 492) (some (.ireturn, 1)) none) (cond (Nat.ble pc 493) (cond (Nat.beq pc 493) (some (.aload_n 1, 1)) none) (cond (Nat.beq pc 494) (some (.aload_n 0, 1)) none))) (cond (Nat.ble pc 495) (cond (Nat.beq pc 495) (some (.iload_n 3, 1)) none) (cond (Nat.ble pc 496) (cond (Nat.beq pc 496) (some (.iconst 1, 1)) none) (cond (Nat.beq pc 497) (some (.iadd, 1)) none)))) (cond (Nat.ble pc 500) (cond (Nat.ble pc 498) (cond (Nat.beq pc 498) (some (.iaload, 1)) none) (cond (Nat.ble pc 499) (cond (Nat.beq pc 499) (some (.aload_n 0, 1)) none) (cond (Nat.beq pc 500) (some (.iload_n 3, 1)) none))) (cond (Nat.ble pc 501) (cond (Nat.beq pc 501) (some (.iconst 2, 1)) none) (cond (Nat.ble pc 502) (cond (Nat.beq pc 502) (some (.iadd, 1)) none) (cond (Nat.beq pc 503) (some (.iaload, 1)) none))))) (cond (Nat.ble pc 509) (cond (Nat.ble pc 506) (cond (Nat.ble pc 504) (cond (Nat.beq pc 504) (some (.aload_n 0, 1)) none) (cond (Nat.ble pc 505) (cond (Nat.beq pc 505) (some (.iload_n 3, 1)) none) (cond (Nat.beq pc 506) (some (.iconst 3, 1)) none))) (cond (Nat.ble pc 507) (cond (Nat.beq pc 507) (some (.iadd, 1)) none) (cond (Nat.ble pc 508) (cond (Nat.beq pc 508) (some (.iaload, 1)) none) (cond (Nat.beq pc 509) (some (.aload_n 0, 1)) none)))) (cond (Nat.ble pc 512) (cond (Nat.ble pc 510) (cond (Nat.beq pc 510) (some (.iload_n 3, 1)) none) (cond (Nat.ble pc 511) (cond (Nat.beq pc 511) (some (.iconst 4, 1)) none) (cond (Nat.beq pc 512) (some (.iadd, 1)) none))) (cond (Nat.ble pc 513) (cond (Nat.beq pc 513) (some (.iaload, 1)) none) (cond (Nat.ble pc 514) (cond (Nat.beq pc 514) (some (.invokevirtual 64, 3)) none) (cond (Nat.beq pc 517) (some (.aload_n 2, 1)) none))))))) (cond (Nat.ble pc 544) (cond (Nat.ble pc 528) (cond (Nat.ble pc 522) (cond (Nat.ble pc 519) (cond (Nat.ble pc 518) (cond (Nat.beq pc 518) (some (.aload_n 0, 1)) none) (cond (Nat.beq pc 519) (some (.iload_n 3, 1)) none)) (cond (Nat.ble pc 520) (cond (Nat.beq pc 520) (some (.iconst 1, 1)) none) (cond (Nat.ble pc 521) (cond (Nat.beq pc 521) (some (.iadd, 1)) none) (cond (Nat.beq pc 522) (some (.iaload, 1)) none)))) (cond (Nat.ble pc 525) (cond (Nat.ble pc 523) (cond (Nat.beq pc 523) (some (.aload_n 0, 1)) none) (cond (Nat.ble pc 524) (cond (Nat.beq pc 524) (some (.iload_n 3, 1)) none) (cond (Nat.beq pc 525) (some (.iconst 2, 1)) none))) (cond (Nat.ble pc 526) (cond (Nat.beq pc 526) (some (.iadd, 1)) none) (cond (Nat.ble pc 527) (cond (Nat.beq pc 527) (some (.iaload, 1)) none) (cond (Nat.beq pc 528) (some (.aload_n 0, 1)) none))))) (cond (Nat.ble pc 534) (cond (Nat.ble pc 531) (cond (Nat.ble pc 529) (cond (Nat.beq pc 529) (some (.iload_n 3, 1)) none) (cond (Nat.ble pc 530) (cond (Nat.beq pc 530) (some (.iconst 3, 1)) none) (cond (Nat.beq pc 531) (some (.iadd, 1)) none))) (cond (Nat.ble pc 532) (cond (Nat.beq pc 532) (some (.iaload, 1)) none) (cond (Nat.ble pc 533) (cond (Nat.beq pc 533) (some (.aload_n 0, 1)) none) (cond (Nat.beq pc 534) (some (.iload_n 3, 1)) none)))) (cond (Nat.ble pc 537) (cond (Nat.ble pc 535) (cond (Nat.beq pc 535) (some (.iconst 4, 1)) none) (cond (Nat.ble pc 536) (cond (Nat.beq pc 536) (some (.iadd, 1)) none) (cond (Nat.beq pc 537) (some (.iaload, 1)) none))) (cond (Nat.ble pc 538) (cond (Nat.beq pc 538) (some (.invokevirtual 68, 3)) none) (cond (Nat.ble pc 541) (cond (Nat.beq pc 541) (some (.if_icmp .eq 488, 3)) none) (cond (Nat.beq pc 544) (some (.iconst 0, 1)) none)))))) (cond (Nat.ble pc 564) (cond (Nat.ble pc 554) (cond (Nat.ble pc 547) (cond (Nat.ble pc 545) (cond (Nat.beq pc 545) (some (.ireturn, 1)) none) (cond (Nat.ble pc 546) (cond (Nat.beq pc 546) (some (.aload_n 1, 1)) none) (cond (Nat.beq pc 547) (some (.invokevirtual 69, 3)) none))) (cond (Nat.ble pc 550) (cond (Nat.beq pc 550) (some (.aload_n 2, 1)) none) (cond (Nat.ble pc 551) (cond (Nat.beq pc 551) (some (.invokevirtual 72, 3)) none) (cond (Nat.beq pc 554) (some (.if_icmp .eq 475, 3)) none)))) (cond (Nat.ble pc 559) (cond (Nat.ble pc 557) (cond (Nat.beq pc 557) (some (.iconst 0, 1)) none) (cond (Nat.ble pc 558) (cond (Nat.beq pc 558) (some (.ireturn, 1)) none) (cond (Nat.beq pc 559) (some (.aload_n 1, 1)) none))) (cond (Nat.ble pc 560) (cond (Nat.beq pc 560) (some (.invokevirtual 73, 3)) none) (cond (Nat.ble pc 563) (cond (Nat.beq pc 563) (some (.aload_n 2, 1)) none) (cond (Nat.beq pc 564) (some (.invokevirtual 76, 3)) none))))) (cond (Nat.ble pc 574) (cond (Nat.ble pc 571) (cond (Nat.ble pc 567) (cond (Nat.beq pc 567) (some (.if_icmp .eq 462, 3)) none) (cond (Nat.ble pc 570) (cond (Nat.beq pc 570) (some (.iconst 0, 1)) none) (cond (Nat.beq pc 571) (some (.ireturn, 1)) none))) (cond (Nat.ble pc 572) (cond (Nat.beq pc 572) (some (.aload_n 1, 1)) none) (cond (Nat.ble pc 573) (cond (Nat.beq pc 573) (some (.aload_n 0, 1)) none) (cond (Nat.beq pc 574) (some (.iload_n 3, 1)) none)))) (cond (Nat.ble pc 577) (cond (Nat.ble pc 575) (cond (Nat.beq pc 575) (some (.iconst 1, 1)) none) (cond (Nat.ble pc 576) (cond (Nat.beq pc 576) (some (.iadd, 1)) none) (cond (Nat.beq pc 577) (some (.iaload, 1)) none))) (cond (Nat.ble pc 578) (cond (Nat.beq pc 578) (some (.aload_n 0, 1)) none) (cond (Nat.ble pc 579) (cond (Nat.beq pc 579) (some (.iload_n 3, 1)) none) (cond (Nat.beq pc 580) (some (.iconst 2, 1)) none)))))))))) (cond (Nat.ble pc 805) (cond (Nat.ble pc 694) (cond (Nat.ble pc 637) (cond (Nat.ble pc 609) (cond (Nat.ble pc 593) (cond (Nat.ble pc 587) (cond (Nat.ble pc 582) (cond (Nat.ble pc 581) (cond (Nat.beq pc 581) (some (.iadd, 1)) none) (cond (Nat.beq pc 582) (some (.iaload, 1)) none)) (cond (Nat.ble pc 583) (cond (Nat.beq pc 583) (some (.invokevirtual 77, 3)) none) (cond (Nat.ble pc 586) (cond (Nat.beq pc 586) (some (.aload_n 2, 1)) none) (cond (Nat.beq pc 587) (some (.aload_n 0, 1)) none)))) (cond (Nat.ble pc 590) (cond (Nat.ble pc 588) (cond (Nat.beq pc 588) (some (.iload_n 3, 1)) none) (cond (Nat.ble pc 589) (cond (Nat.beq pc 589) (some (.iconst 1, 1)) none) (cond (Nat.beq pc 590) (some (.iadd, 1)) none))) (cond (Nat.ble pc 591) (cond (Nat.beq pc 591) (some (.iaload, 1)) none) (cond (Nat.ble pc 592) (cond (Nat.beq pc 592) (some (.aload_n 0, 1)) none) (cond (Nat.beq pc 593) (some (.iload_n 3, 1)) none))))) (cond (Nat.ble pc 603) (cond (Nat.ble pc 596) (cond (Nat.ble pc 594) (cond (Nat.beq pc 594) (some (.iconst 2, 1)) none) (cond (Nat.ble pc 595) (cond (Nat.beq pc 595) (some (.iadd, 1)) none) (cond (Nat.beq pc 596) (some (.iaload, 1)) none))) (cond (Nat.ble pc 597) (cond (Nat.beq pc 597) (some (.invokevirtual 80, 3)) none) (cond (Nat.ble pc 600) (cond (Nat.beq pc 600) (some (.if_icmp .eq 429, 3)) none) (cond (Nat.beq pc 603) (some (.iconst 0, 1)) none)))) (cond (Nat.ble pc 606) (cond (Nat.ble pc 604) (cond (Nat.beq pc 604) (some (.ireturn, 1)) none) (cond (Nat.ble pc 605) (cond (Nat.beq pc 605) (some (.aload_n 1, 1)) none) (cond (Nat.beq pc 606) (some (.aload_n 0, 1)) none))) (cond (Nat.ble pc 607) (cond (Nat.beq pc 607) (some (.iload_n 3, 1)) none) (cond (Nat.ble pc 608) (cond (Nat.beq pc 608) (some (.iconst 1, 1)) none) (cond (Nat.beq pc 609) (some (.iadd, 1)) none)))))) (cond (Nat.ble pc 621) (cond (Nat.ble pc 614) (cond (Nat.ble pc 611) (cond (Nat.ble pc 610) (cond (Nat.beq pc 610) (some (.iaload, 1)) none) (cond (Nat.beq pc 611) (some (.aload_n 0, 1)) none)) (cond (Nat.ble pc 612) (cond (Nat.beq pc 612) (some (.iload_n 3, 1)) none) (cond (Nat.ble pc 613) (cond (Nat.beq pc 613) (some (.iconst 2, 1)) none) (cond (Nat.beq pc 614) (some (.iadd, 1)) none)))) (cond (Nat.ble pc 617) (cond (Nat.ble pc 615) (cond (Nat.beq pc 615) (some (.iaload, 1)) none) (cond (Nat.ble pc 616) (cond (Nat.beq pc 616) (some (.i2l, 1)) none) (cond (Nat.beq pc 617) (some (.bipush 32, 2)) none))) (cond (Nat.ble pc 619) (cond (Nat.beq pc 619) (some (.lshl, 1)) none) (cond (Nat.ble pc 620) (cond (Nat.beq pc 620) (some (.aload_n 0, 1)) none) (cond (Nat.beq pc 621) (some (.iload_n 3, 1)) none))))) (cond (Nat.ble pc 629) (cond (Nat.ble pc 624) (cond (Nat.ble pc 622) (cond (Nat.beq pc 622) (some (.iconst 3, 1)) none) (cond (Nat.ble pc 623) (cond (Nat.beq pc 623) (some (.iadd, 1)) none) (cond (Nat.beq pc 624) (some (.iaload, 1)) none))) (cond (Nat.ble pc 625) (cond (Nat.beq pc 625) (some (.i2l, 1)) none) (cond (Nat.ble pc 626) (cond (Nat.beq pc 626) (some (.ldc2_w 13, 3)) none) (cond (Nat.beq pc 629) (some (.land, 1)) none)))) (cond (Nat.ble pc 634) (cond (Nat.ble pc 630) (cond (Nat.beq pc 630) (some (.lor, 1)) none) (cond (Nat.ble pc 631) (cond (Nat.beq pc 631) (some (.invokevirtual 81, 3)) none) (cond (Nat.beq pc 634) (some (.aload_n 2, 1)) none))) (cond (Nat.ble pc 635) (cond (Nat.beq pc 635) (some (.aload_n 0, 1)) none) (cond (Nat.ble pc 636) (cond (Nat.beq pc 636) (some (.iload_n 3, 1)) none) (cond (Nat.beq pc 637) (some (.iconst 1, 1)) none))))))) (cond (Nat.ble pc 667) (cond (Nat.ble pc 649) (cond (Nat.ble pc 642) (cond (Nat.ble pc 639) (cond (Nat.ble pc 638) (cond (Nat.beq pc 638) (some (.iadd, 1)) none) (cond (Nat.beq pc 639) (some (.iaload, 1)) none)) (cond (Nat.ble pc 640) (cond (Nat.beq pc 640) (some (.aload_n 0, 1)) none) (cond (Nat.ble pc 641) (cond (Nat.beq pc 641) (some (.iload_n 3, 1)) none) (cond (Nat.beq pc 642) (some (.iconst 2, 1)) none)))) (cond (Nat.ble pc 645) (cond (Nat.ble pc 643) (cond (Nat.beq pc 643) (some (.iadd, 1)) none) (cond (Nat.ble pc 644) (cond (Nat.beq pc 644) (some (.iaload, 1)) none) (cond (Nat.beq pc 645) (some (.i2l, 1)) none))) (cond (Nat.ble pc 646) (cond (Nat.beq pc 646) (some (.bipush 32, 2)) none) (cond (Nat.ble pc 648) (cond (Nat.beq pc 648) (some (.lshl, 1)) none) (cond (Nat.beq pc 649) (some (.aload_n 0, 1)) none))))) (cond (Nat.ble pc 655) (cond (Nat.ble pc 652) (cond (Nat.ble pc 650) (cond (Nat.beq pc 650) (some (.iload_n 3, 1)) none) (cond (Nat.ble pc 651) (cond (Nat.beq pc 651) (some (.iconst 3, 1)) none) (cond (Nat.beq pc 652) (some (.iadd, 1)) none))) (cond (Nat.ble pc 653) (cond (Nat.beq pc 653) (some (.iaload, 1)) none) (cond (Nat.ble pc 654) (cond (Nat.beq pc 654) (some (.i2l, 1)) none) (cond (Nat.beq pc 655) (some (.ldc2_w 13, 3)) none)))) (cond (Nat.ble pc 660) (cond (Nat.ble pc 658) (cond (Nat.beq pc 658) (some (.land, 1)) none) (cond (Nat.ble pc 659) (cond (Nat.beq pc 659) (some (.lor, 1)) none) (cond (Nat.beq pc 660) (some (.invokevirtual 85, 3)) none))) (cond (Nat.ble pc 663) (cond (Nat.beq pc 663) (some (.if_icmp .eq 366, 3)) none) (cond (Nat.ble pc 666) (cond (Nat.beq pc 666) (some (.iconst 0, 1)) none) (cond (Nat.beq pc 667) (some (.ireturn, 1)) none)))))) (cond (Nat.ble pc 679) (cond (Nat.ble pc 673) (cond (Nat.ble pc 670) (cond (Nat.ble pc 668) (cond (Nat.beq pc 668) (some (.aload_n 1, 1)) none) (cond (Nat.ble pc 669) (cond (Nat.beq pc 669) (some (.aload_n 0, 1)) none) (cond (Nat.beq pc 670) (some (.iload_n 3, 1)) none))) (cond (Nat.ble pc 671) (cond (Nat.beq pc 671) (some (.iconst 1, 1)) none) (cond (Nat.ble pc 672) (cond (Nat.beq pc 672) (some (.iadd, 1)) none) (cond (Nat.beq pc 673) (some (.iaload, 1)) none)))) (cond (Nat.ble pc 676) (cond (Nat.ble pc 674) (cond (Nat.beq pc 674) (some (.aload_n 0, 1)) none) (cond (Nat.ble pc 675) (cond (Nat.beq pc 675) (some (.iload_n 3, 1)) none) (cond (Nat.beq pc 676) (some (.iconst 2, 1)) none))) (cond (Nat.ble pc 677) (cond (Nat.beq pc 677) (some (.iadd, 1)) none) (cond (Nat.ble pc 678) (cond (Nat.beq pc 678) (some (.iaload, 1)) none) (cond (Nat.beq pc 679) (some (.i2l, 1)) none))))) (cond (Nat.ble pc 686) (cond (Nat.ble pc 683) (cond (Nat.ble pc 680) (cond (Nat.beq pc 680) (some (.bipush 32, 2)) none) (cond (Nat.ble pc 682) (cond (Nat.beq pc 682) (some (.lshl, 1)) none) (cond (Nat.beq pc 683) (some (.aload_n 0, 1)) none))) (cond (Nat.ble pc 684) (cond (Nat.beq pc 684) (some (.iload_n 3, 1)) none) (cond (Nat.ble pc 685) (cond (Nat.beq pc 685) (some (.iconst 3, 1)) none) (cond (Nat.beq pc 686) (some (.iadd, 1)) none)))) (cond (Nat.ble pc 689) (cond (Nat.ble pc 687) (cond (Nat.beq pc 687) (some (.iaload, 1)) none) (cond (Nat.ble pc 688) (cond (Nat.beq pc 688) (some (.i2l, 1)) none) (cond (Nat.beq pc 689) (some (.ldc2_w 13, 3)) none))) (cond (Nat.ble pc 692) (cond (Nat.beq pc 692) (some (.land, 1)) none) (cond (Nat.ble pc 693) (cond (Nat.beq pc 693) (some (.lor, 1)) none) (cond (Nat.beq pc 694) (some (.aload_n 0, 1)) none)))))))) (cond (Nat.ble pc 750) (cond (Nat.ble pc 720) (cond (Nat.ble pc 707) (cond (Nat.ble pc 699) (cond (Nat.ble pc 696) (cond (Nat.ble pc 695) (cond (Nat.beq pc 695) (some (.iload_n 3, 1)) none) (cond (Nat.beq pc 696) (some (.iconst 4, 1)) none)) (cond (Nat.ble pc 697) (cond (Nat.beq pc 697) (some (.iadd, 1)) none) (cond (Nat.ble pc 698) (cond (Nat.beq pc 698) (some (.iaload, 1)) none) (cond (Nat.beq pc 699) (some (.invokevirtual 86, 3)) none)))) (cond (Nat.ble pc 704) (cond (Nat.ble pc 702) (cond (Nat.beq pc 702) (some (.aload_n 2, 1)) none) (cond (Nat.ble pc 703) (cond (Nat.beq pc 703) (some (.aload_n 0, 1)) none) (cond (Nat.beq pc 704) (some (.iload_n 3, 1)) none))) (cond (Nat.ble pc 705) (cond (Nat.beq pc 705) (some (.iconst 1, 1)) none) (cond (Nat.ble pc 706) (cond (Nat.beq pc 706) (some (.iadd, 1)) none) (cond (Nat.beq pc 707) (some (.iaload, 1)) none))))) (cond (Nat.ble pc 713) (cond (Nat.ble pc 710) (cond (Nat.ble pc 708) (cond (Nat.beq pc 708) (some (.aload_n 0, 1)) none) (cond (Nat.ble pc 709) (cond (Nat.beq pc 709) (some (.iload_n 3, 1)) none) (cond (Nat.beq pc 710) (some (.iconst 2, 1)) none))) (cond (Nat.ble pc 711) (cond (Nat.beq pc 711) (some (.iadd, 1)) none) (cond (Nat.ble pc 712) (cond (Nat.beq pc 712) (some (.iaload, 1)) none) (cond (Nat.beq pc 713) (some (.i2l, 1)) none)))) (cond (Nat.ble pc 717) (cond (Nat.ble pc 714) (cond (Nat.beq pc 714) (some (.bipush 32, 2)) none) (cond (Nat.ble pc 716) (cond (Nat.beq pc 716) (some (.lshl, 1)) none) (cond (Nat.beq pc 717) (some (.aload_n 0, 1)) none))) (cond (Nat.ble pc 718) (cond (Nat.beq pc 718) (some (.iload_n 3, 1)) none) (cond (Nat.ble pc 719) (cond (Nat.beq pc 719) (some (.iconst 3, 1)) none) (cond (Nat.beq pc 720) (some (.iadd, 1)) none)))))) (cond (Nat.ble pc 736) (cond (Nat.ble pc 728) (cond (Nat.ble pc 723) (cond (Nat.ble pc 721) (cond (Nat.beq pc 721) (some (.iaload, 1)) none) (cond (Nat.ble pc 722) (cond (Nat.beq pc 722) (some (.i2l, 1)) none) (cond (Nat.beq pc 723) (some (.ldc2_w 13, 3)) none))) (cond (Nat.ble pc 726) (cond (Nat.beq pc 726) (some (.land, 1)) none) (cond (Nat.ble pc 727) (cond (Nat.beq pc 727) (some (.lor, 1)) none) (cond (Nat.beq pc 728) (some (.aload_n 0, 1)) none)))) (cond (Nat.ble pc 731) (cond (Nat.ble pc 729) (cond (Nat.beq pc 729) (some (.iload_n 3, 1)) none) (cond (Nat.ble pc 730) (cond (Nat.beq pc 730) (some (.iconst 4, 1)) none) (cond (Nat.beq pc 731) (some (.iadd, 1)) none))) (cond (Nat.ble pc 732) (cond (Nat.beq pc 732) (some (.iaload, 1)) none) (cond (Nat.ble pc 733) (cond (Nat.beq pc 733) (some (.invokevirtual 90, 3)) none) (cond (Nat.beq pc 736) (some (.if_icmp .eq 293, 3)) none))))) (cond (Nat.ble pc 744) (cond (Nat.ble pc 741) (cond (Nat.ble pc 739) (cond (Nat.beq pc 739) (some (.iconst 0, 1)) none) (cond (Nat.ble pc 740) (cond (Nat.beq pc 740) (some (.ireturn, 1)) none) (cond (Nat.beq pc 741) (some (.aload_n 1, 1)) none))) (cond (Nat.ble pc 742) (cond (Nat.beq pc 742) (some (.aload_n 0, 1)) none) (cond (Nat.ble pc 743) (cond (Nat.beq pc 743) (some (.iload_n 3, 1)) none) (cond (Nat.beq pc 744) (some (.iconst 1, 1)) none)))) (cond (Nat.ble pc 747) (cond (Nat.ble pc 745) (cond (Nat.beq pc 745) (some (.iadd, 1)) none) (cond (Nat.ble pc 746) (cond (Nat.beq pc 746) (some (.iaload, 1)) none) (cond (Nat.beq pc 747) (some (.aload_n 0, 1)) none))) (cond (Nat.ble pc 748) (cond (Nat.beq pc 748) (some (.iload_n 3, 1)) none) (cond (Nat.ble pc 749) (cond (Nat.beq pc 749) (some (.iconst 2, 1)) none) (cond (Nat.beq pc 750) (some (.iadd, 1)) none))))))) (cond (Nat.ble pc 778) (cond (Nat.ble pc 762) (cond (Nat.ble pc 755) (cond (Nat.ble pc 752) (cond (Nat.ble pc 751) (cond (Nat.beq pc 751) (some (.iaload, 1)) none) (cond (Nat.beq pc 752) (some (.aload_n 0, 1)) none)) (cond (Nat.ble pc 753) (cond (Nat.beq pc 753) (some (.iload_n 3, 1)) none) (cond (Nat.ble pc 754) (cond (Nat.beq pc 754) (some (.iconst 3, 1)) none) (cond (Nat.beq pc 755) (some (.iadd, 1)) none)))) (cond (Nat.ble pc 758) (cond (Nat.ble pc 756) (cond (Nat.beq pc 756) (some (.iaload, 1)) none) (cond (Nat.ble pc 757) (cond (Nat.beq pc 757) (some (.i2l, 1)) none) (cond (Nat.beq pc 758) (some (.bipush 32, 2)) none))) (cond (Nat.ble pc 760) (cond (Nat.beq pc 760) (some (.lshl, 1)) none) (cond (Nat.ble pc 761) (cond (Nat.beq pc 761) (some (.aload_n 0, 1)) none) (cond (Nat.beq pc 762) (some (.iload_n 3, 1)) none))))) (cond (Nat.ble pc 770) (cond (Nat.ble pc 765) (cond (Nat.ble pc 763) (cond (Nat.beq pc 763) (some (.iconst 4, 1)) none) (cond (Nat.ble pc 764) (cond (Nat.beq pc 764) (some (.iadd, 1)) none) (cond (Nat.beq pc 765) (some (.iaload, 1)) none))) (cond (Nat.ble pc 766) (cond (Nat.beq pc 766) (some (.i2l, 1)) none) (cond (Nat.ble pc 767) (cond (Nat.beq pc 767) (some (.ldc2_w 13, 3)) none) (cond (Nat.beq pc 770) (some (.land, 1)) none)))) (cond (Nat.ble pc 775) (cond (Nat.ble pc 771) (cond (Nat.beq pc 771) (some (.lor, 1)) none) (cond (Nat.ble pc 772) (cond (Nat.beq pc 772) (some (.invokevirtual 91, 3)) none) (cond (Nat.beq pc 775) (some (.aload_n 2, 1)) none))) (cond (Nat.ble pc 776) (cond (Nat.beq pc 776) (some (.aload_n 0, 1)) none) (cond (Nat.ble pc 777) (cond (Nat.beq pc 777) (some (.iload_n 3, 1)) none) (cond (Nat.beq pc 778) (some (.iconst 1, 1)) none)))))) (cond (Nat.ble pc 790) (cond (Nat.ble pc 784) (cond (Nat.ble pc 781) (cond (Nat.ble pc 779) (cond (Nat.beq pc 779) (some (.iadd, 1)) none) (cond (Nat.ble pc 780) (cond (Nat.beq pc 780) (some (.iaload, 1)) none) (cond (Nat.beq pc 781) (some (.aload_n 0, 1)) none))) (cond (Nat.ble pc 782) (cond (Nat.beq pc 782) (some (.iload_n 3, 1)) none) (cond (Nat.ble pc 783) (cond (Nat.beq pc 783) (some (.iconst 2, 1)) none) (cond (Nat.beq pc 784) (some (.iadd, 1)) none)))) (cond (Nat.ble pc 787) (cond (Nat.ble pc 785) (cond (Nat.beq pc 785) (some (.iaload, 1)) none) (cond (Nat.ble pc 786) (cond (Nat.beq pc 786) (some (.aload_n 0, 1)) none) (cond (Nat.beq pc 787) (some (.iload_n 3, 1)) none))) (cond (Nat.ble pc 788) (cond (Nat.beq pc 788) (some (.iconst 3, 1)) none) (cond (Nat.ble pc 789) (cond (Nat.beq pc 789) (some (.iadd, 1)) none) (cond (Nat.beq pc 790) (some (.iaload, 1)) none))))) (cond (Nat.ble pc 797) (cond (Nat.ble pc 794) (cond (Nat.ble pc 791) (cond (Nat.beq pc 791) (some (.i2l, 1)) none) (cond (Nat.ble pc 792) (cond (Nat.beq pc 792) (some (.bipush 32, 2)) none) (cond (Nat.beq pc 794) (some (.lshl, 1)) none))) (cond (Nat.ble pc 795) (cond (Nat.beq pc 795) (some (.aload_n 0, 1)) none) (cond (Nat.ble pc 796) (cond (Nat.beq pc 796) (some (.iload_n 3, 1)) none) (cond (Nat.beq pc 797) (some (.iconst 4, 1)) none)))) (cond (Nat.ble pc 800) (cond (Nat.ble pc 798) (cond (Nat.beq pc 798) (some (.iadd, 1)) none) (cond (Nat.ble pc 799) (cond (Nat.beq pc 799) (some (.iaload, 1)) none) (cond (Nat.beq pc 800) (some (.i2l, 1)) none))) (cond (Nat.ble pc 801) (cond (Nat.beq pc 801) (some (.ldc2_w 13, 3)) none) (cond (Nat.ble pc 804) (cond (Nat.beq pc 804) (some (.land, 1)) none) (cond (Nat.beq pc 805) (some (.lor, 1)) none))))))))) (cond (Nat.ble pc 919) (cond (Nat.ble pc 863) (cond (Nat.ble pc 838) (cond (Nat.ble pc 820) (cond (Nat.ble pc 814) (cond (Nat.ble pc 809) (cond (Nat.ble pc 806) (cond (Nat.beq pc 806) (some (.invokevirtual 95, 3)) none) (cond (Nat.beq pc 809) (some (.if_icmp .eq 220, 3)) none)) (cond (Nat.ble pc 812) (cond (Nat.beq pc 812) (some (.iconst 0, 1)) none) (cond (Nat.ble pc 813) (cond (Nat.beq pc 813) (some (.ireturn, 1)) none) (cond (Nat.beq pc 814) (some (.aload_n 1, 1)) none)))) (cond (Nat.ble pc 817) (cond (Nat.ble pc 815) (cond (Nat.beq pc 815) (some (.aload_n 0, 1)) none) (cond (Nat.ble pc 816) (cond (Nat.beq pc 816) (some (.iload_n 3, 1)) none) (cond (Nat.beq pc 817) (some (.iconst 1, 1)) none))) (cond (Nat.ble pc 818) (cond (Nat.beq pc 818) (some (.iadd, 1)) none) (cond (Nat.ble pc 819) (cond (Nat.beq pc 819) (some (.iaload, 1)) none) (cond (Nat.beq pc 820) (some (.invokevirtual 96, 3)) none))))) (cond (Nat.ble pc 828) (cond (Nat.ble pc 825) (cond (Nat.ble pc 823) (cond (Nat.beq pc 823) (some (.aload_n 2, 1)) none) (cond (Nat.ble pc 824) (cond (Nat.beq pc 824) (some (.aload_n 0, 1)) none) (cond (Nat.beq pc 825) (some (.iload_n 3, 1)) none))) (cond (Nat.ble pc 826) (cond (Nat.beq pc 826) (some (.iconst 1, 1)) none) (cond (Nat.ble pc 827) (cond (Nat.beq pc 827) (some (.iadd, 1)) none) (cond (Nat.beq pc 828) (some (.iaload, 1)) none)))) (cond (Nat.ble pc 835) (cond (Nat.ble pc 829) (cond (Nat.beq pc 829) (some (.invokevirtual 99, 3)) none) (cond (Nat.ble pc 832) (cond (Nat.beq pc 832) (some (.if_icmp .eq 197, 3)) none) (cond (Nat.beq pc 835) (some (.iconst 0, 1)) none))) (cond (Nat.ble pc 836) (cond (Nat.beq pc 836) (some (.ireturn, 1)) none) (cond (Nat.ble pc 837) (cond (Nat.beq pc 837) (some (.aload_n 1, 1)) none) (cond (Nat.beq pc 838) (some (.aload_n 0, 1)) none)))))) (cond (Nat.ble pc 849) (cond (Nat.ble pc 843) (cond (Nat.ble pc 840) (cond (Nat.ble pc 839) (cond (Nat.beq pc 839) (some (.iload_n 3, 1)) none) (cond (Nat.beq pc 840) (some (.iconst 1, 1)) none)) (cond (Nat.ble pc 841) (cond (Nat.beq pc 841) (some (.iadd, 1)) none) (cond (Nat.ble pc 842) (cond (Nat.beq pc 842) (some (.iaload, 1)) none) (cond (Nat.beq pc 843) (some (.aload_n 0, 1)) none)))) (cond (Nat.ble pc 846) (cond (Nat.ble pc 844) (cond (Nat.beq pc 844) (some (.iload_n 3, 1)) none) (cond (Nat.ble pc 845) (cond (Nat.beq pc 845) (some (.iconst 2, 1)) none) (cond (Nat.beq pc 846) (some (.iadd, 1)) none))) (cond (Nat.ble pc 847) (cond (Nat.beq pc 847) (some (.iaload, 1)) none) (cond (Nat.ble pc 848) (cond (Nat.beq pc 848) (some (.aload_n 0, 1)) none) (cond (Nat.beq pc 849) (some (.iload_n 3, 1)) none))))) (cond (Nat.ble pc 857) (cond (Nat.ble pc 852) (cond (Nat.ble pc 850) (cond (Nat.beq pc 850) (some (.iconst 3, 1)) none) (cond (Nat.ble pc 851) (cond (Nat.beq pc 851) (some (.iadd, 1)) none) (cond (Nat.beq pc 852) (some (.iaload, 1)) none))) (cond (Nat.ble pc 853) (cond (Nat.beq pc 853) (some (.invokevirtual 100, 3)) none) (cond (Nat.ble pc 856) (cond (Nat.beq pc 856) (some (.aload_n 2, 1)) none) (cond (Nat.beq pc 857) (some (.aload_n 0, 1)) none)))) (cond (Nat.ble pc 860) (cond (Nat.ble pc 858) (cond (Nat.beq pc 858) (some (.iload_n 3, 1)) none) (cond (Nat.ble pc 859) (cond (Nat.beq pc 859) (some (.iconst 1, 1)) none) (cond (Nat.beq pc 860) (some (.iadd, 1)) none))) (cond (Nat.ble pc 861) (cond (Nat.beq pc 861) (some (.iaload, 1)) none) (cond (Nat.ble pc 862) (cond (Nat.beq pc 862) (some (.aload_n 0, 1)) none) (cond (Nat.beq pc 863) (some (.iload_n 3, 1)) none))))))) (cond (Nat.ble pc 890) (cond (Nat.ble pc 878) (cond (Nat.ble pc 868) (cond (Nat.ble pc 865) (cond (Nat.ble pc 864) (cond (Nat.beq pc 864) (some (.iconst 2, 1)) none) (cond (Nat.beq pc 865) (some (.iadd, 1)) none)) (cond (Nat.ble pc 866) (cond (Nat.beq pc 866) (some (.iaload, 1)) none) (cond (Nat.ble pc 867) (cond (Nat.beq pc 867) (some (.aload_n 0, 1)) none) (cond (Nat.beq pc 868) (some (.iload_n 3, 1)) none)))) (cond (Nat.ble pc 871) (cond (Nat.ble pc 869) (cond (Nat.beq pc 869) (some (.iconst 3, 1)) none) (cond (Nat.ble pc 870) (cond (Nat.beq pc 870) (some (.iadd, 1)) none) (cond (Nat.beq pc 871) (some (.iaload, 1)) none))) (cond (Nat.ble pc 872) (cond (Nat.beq pc 872) (some (.invokevirtual 103, 3)) none) (cond (Nat.ble pc 875) (cond (Nat.beq pc 875) (some (.if_icmp .eq 154, 3)) none) (cond (Nat.beq pc 878) (some (.iconst 0, 1)) none))))) (cond (Nat.ble pc 884) (cond (Nat.ble pc 881) (cond (Nat.ble pc 879) (cond (Nat.beq pc 879) (some (.ireturn, 1)) none) (cond (Nat.ble pc 880) (cond (Nat.beq pc 880) (some (.aload_n 1, 1)) none) (cond (Nat.beq pc 881) (some (.aload_n 0, 1)) none))) (cond (Nat.ble pc 882) (cond (Nat.beq pc 882) (some (.iload_n 3, 1)) none) (cond (Nat.ble pc 883) (cond (Nat.beq pc 883) (some (.iconst 1, 1)) none) (cond (Nat.beq pc 884) (some (.iadd, 1)) none)))) (cond (Nat.ble pc 887) (cond (Nat.ble pc 885) (cond (Nat.beq pc 885) (some (.iaload, 1)) none) (cond (Nat.ble pc 886) (cond (Nat.beq pc 886) (some (.aload_n 0, 1)) none) (cond (Nat.beq pc 887) (some (.iload_n 3, 1)) none))) (cond (Nat.ble pc 888) (cond (Nat.beq pc 888) (some (.iconst 2, 1)) none) (cond (Nat.ble pc 889) (cond (Nat.beq pc 889) (some (.iadd, 1)) none) (cond (Nat.beq pc 890) (some (.iaload, 1)) none)))))) (cond (Nat.ble pc 903) (cond (Nat.ble pc 896) (cond (Nat.ble pc 893) (cond (Nat.ble pc 891) (cond (Nat.beq pc 891) (some (.aload_n 0, 1)) none) (cond (Nat.ble pc 892) (cond (Nat.beq pc 892) (some (.iload_n 3, 1)) none) (cond (Nat.beq pc 893) (some (.iconst 3, 1)) none))) (cond (Nat.ble pc 894) (cond (Nat.beq pc 894) (some (.iadd, 1)) none) (cond (Nat.ble pc 895) (cond (Nat.beq pc 895) (some (.iaload, 1)) none) (cond (Nat.beq pc 896) (some (.i2l, 1)) none)))) (cond (Nat.ble pc 900) (cond (Nat.ble pc 897) (cond (Nat.beq pc 897) (some (.bipush 32, 2)) none) (cond (Nat.ble pc 899) (cond (Nat.beq pc 899) (some (.lshl, 1)) none) (cond (Nat.beq pc 900) (some (.aload_n 0, 1)) none))) (cond (Nat.ble pc 901) (cond (Nat.beq pc 901) (some (.iload_n 3, 1)) none) (cond (Nat.ble pc 902) (cond (Nat.beq pc 902) (some (.iconst 4, 1)) none) (cond (Nat.beq pc 903) (some (.iadd, 1)) none))))) (cond (Nat.ble pc 911) (cond (Nat.ble pc 906) (cond (Nat.ble pc 904) (cond (Nat.beq pc 904) (some (.iaload, 1)) none) (cond (Nat.ble pc 905) (cond (Nat.beq pc 905) (some (.i2l, 1)) none) (cond (Nat.beq pc 906) (some (.ldc2_w 13, 3)) none))) (cond (Nat.ble pc 909) (cond (Nat.beq pc 909) (some (.land, 1)) none) (cond (Nat.ble pc 910) (cond (Nat.beq pc 910) (some (.lor, 1)) none) (cond (Nat.beq pc 911) (some (.invokevirtual 104, 3)) none)))) (cond (Nat.ble pc 916) (cond (Nat.ble pc 914) (cond (Nat.beq pc 914) (some (.aload_n 2, 1)) none) (cond (Nat.ble pc 915) (cond (Nat.beq pc 915) (some (.aload_n 0, 1)) none) (cond (Nat.beq pc 916) (some (.iload_n 3, 1)) none))) (cond (Nat.ble pc 917) (cond (Nat.beq pc 917) (some (.iconst 1, 1)) none) (cond (Nat.ble pc 918) (cond (Nat.beq pc 918) (some (.iadd, 1)) none) (cond (Nat.beq pc 919) (some (.iaload, 1)) none)))))))) (cond (Nat.ble pc 973) (cond (Nat.ble pc 945) (cond (Nat.ble pc 930) (cond (Nat.ble pc 924) (cond (Nat.ble pc 921) (cond (Nat.ble pc 920) (cond (Nat.beq pc 920) (some (.aload_n 0, 1)) none) (cond (Nat.beq pc 921) (some (.iload_n 3, 1)) none)) (cond (Nat.ble pc 922) (cond (Nat.beq pc 922) (some (.iconst 2, 1)) none) (cond (Nat.ble pc 923) (cond (Nat.beq pc 923) (some (.iadd, 1)) none) (cond (Nat.beq pc 924) (some (.iaload, 1)) none)))) (cond (Nat.ble pc 927) (cond (Nat.ble pc 925) (cond (Nat.beq pc 925) (some (.aload_n 0, 1)) none) (cond (Nat.ble pc 926) (cond (Nat.beq pc 926) (some (.iload_n 3, 1)) none) (cond (Nat.beq pc 927) (some (.iconst 3, 1)) none))) (cond (Nat.ble pc 928) (cond (Nat.beq pc 928) (some (.iadd, 1)) none) (cond (Nat.ble pc 929) (cond (Nat.beq pc 929) (some (.iaload, 1)) none) (cond (Nat.beq pc 930) (some (.i2l, 1)) none))))) (cond (Nat.ble pc 937) (cond (Nat.ble pc 934) (cond (Nat.ble pc 931) (cond (Nat.beq pc 931) (some (.bipush 32, 2)) none) (cond (Nat.ble pc 933) (cond (Nat.beq pc 933) (some (.lshl, 1)) none) (cond (Nat.beq pc 934) (some (.aload_n 0, 1)) none))) (cond (Nat.ble pc 935) (cond (Nat.beq pc 935) (some (.iload_n 3, 1)) none) (cond (Nat.ble pc 936) (cond (Nat.beq pc 936) (some (.iconst 4, 1)) none) (cond (Nat.beq pc 937) (some (.iadd, 1)) none)))) (cond (Nat.ble pc 940) (cond (Nat.ble pc 938) (cond (Nat.beq pc 938) (some (.iaload, 1)) none) (cond (Nat.ble pc 939) (cond (Nat.beq pc 939) (some (.i2l, 1)) none) (cond (Nat.beq pc 940) (some (.ldc2_w 13, 3)) none))) (cond (Nat.ble pc 943) (cond (Nat.beq pc 943) (some (.land, 1)) none) (cond (Nat.ble pc 944) (cond (Nat.beq pc 944) (some (.lor, 1)) none) (cond (Nat.beq pc 945) (some (.invokevirtual 107, 3)) none)))))) (cond (Nat.ble pc 961) (cond (Nat.ble pc 955) (cond (Nat.ble pc 952) (cond (Nat.ble pc 948) (cond (Nat.beq pc 948) (some (.if_icmp .eq 81, 3)) none) (cond (Nat.ble pc 951) (cond (Nat.beq pc 951) (some (.iconst 0, 1)) none) (cond (Nat.beq pc 952) (some (.ireturn, 1)) none))) (cond (Nat.ble pc 953) (cond (Nat.beq pc 953) (some (.aload_n 1, 1)) none) (cond (Nat.ble pc 954) (cond (Nat.beq pc 954) (some (.aload_n 0, 1)) none) (cond (Nat.beq pc 955) (some (.iload_n 3, 1)) none)))) (cond (Nat.ble pc 958) (cond (Nat.ble pc 956) (cond (Nat.beq pc 956) (some (.iconst 1, 1)) none) (cond (Nat.ble pc 957) (cond (Nat.beq pc 957) (some (.iadd, 1)) none) (cond (Nat.beq pc 958) (some (.iaload, 1)) none))) (cond (Nat.ble pc 959) (cond (Nat.beq pc 959) (some (.aload_n 0, 1)) none) (cond (Nat.ble pc 960) (cond (Nat.beq pc 960) (some (.iload_n 3, 1)) none) (cond (Nat.beq pc 961) (some (.iconst 2, 1)) none))))) (cond (Nat.ble pc 967) (cond (Nat.ble pc 964) (cond (Nat.ble pc 962) (cond (Nat.beq pc 962) (some (.iadd, 1)) none) (cond (Nat.ble pc 963) (cond (Nat.beq pc 963) (some (.iaload, 1)) none) (cond (Nat.beq pc 964) (some (.aload_n 0, 1)) none))) (cond (Nat.ble pc 965) (cond (Nat.beq pc 965) (some (.iload_n 3, 1)) none) (cond (Nat.ble pc 966) (cond (Nat.beq pc 966) (some (.iconst 3, 1)) none) (cond (Nat.beq pc 967) (some (.iadd, 1)) none)))) (cond (Nat.ble pc 970) (cond (Nat.ble pc 968) (cond (Nat.beq pc 968) (some (.iaload, 1)) none) (cond (Nat.ble pc 969) (cond (Nat.beq pc 969) (some (.aload_n 0, 1)) none) (cond (Nat.beq pc 970) (some (.iload_n 3, 1)) none))) (cond (Nat.ble pc 971) (cond (Nat.beq pc 971) (some (.iconst 4, 1)) none) (cond (Nat.ble pc 972) (cond (Nat.beq pc 972) (some (.iadd, 1)) none) (cond (Nat.beq pc 973) (some (.iaload, 1)) none))))))) (cond (Nat.ble pc 998) (cond (Nat.ble pc 986) (cond (Nat.ble pc 980) (cond (Nat.ble pc 977) (cond (Nat.ble pc 974) (cond (Nat.beq pc 974) (some (.invokevirtual 108, 3)) none) (cond (Nat.beq pc 977) (some (.aload_n 2, 1)) none)) (cond (Nat.ble pc 978) (cond (Nat.beq pc 978) (some (.aload_n 0, 1)) none) (cond (Nat.ble pc 979) (cond (Nat.beq pc 979) (some (.iload_n 3, 1)) none) (cond (Nat.beq pc 980) (some (.iconst 1, 1)) none)))) (cond (Nat.ble pc 983) (cond (Nat.ble pc 981) (cond (Nat.beq pc 981) (some (.iadd, 1)) none) (cond (Nat.ble pc 982) (cond (Nat.beq pc 982) (some (.iaload, 1)) none) (cond (Nat.beq pc 983) (some (.aload_n 0, 1)) none))) (cond (Nat.ble pc 984) (cond (Nat.beq pc 984) (some (.iload_n 3, 1)) none) (cond (Nat.ble pc 985) (cond (Nat.beq pc 985) (some (.iconst 2, 1)) none) (cond (Nat.beq pc 986) (some (.iadd, 1)) none))))) (cond (Nat.ble pc 992) (cond (Nat.ble pc 989) (cond (Nat.ble pc 987) (cond (Nat.beq pc 987) (some (.iaload, 1)) none) (cond (Nat.ble pc 988) (cond (Nat.beq pc 988) (some (.aload_n 0, 1)) none) (cond (Nat.beq pc 989) (some (.iload_n 3, 1)) none))) (cond (Nat.ble pc 990) (cond (Nat.beq pc 990) (some (.iconst 3, 1)) none) (cond (Nat.ble pc 991) (cond (Nat.beq pc 991) (some (.iadd, 1)) none) (cond (Nat.beq pc 992) (some (.iaload, 1)) none)))) (cond (Nat.ble pc 995) (cond (Nat.ble pc 993) (cond (Nat.beq pc 993) (some (.aload_n 0, 1)) none) (cond (Nat.ble pc 994) (cond (Nat.beq pc 994) (some (.iload_n 3, 1)) none) (cond (Nat.beq pc 995) (some (.iconst 4, 1)) none))) (cond (Nat.ble pc 996) (cond (Nat.beq pc 996) (some (.iadd, 1)) none) (cond (Nat.ble pc 997) (cond (Nat.beq pc 997) (some (.iaload, 1)) none) (cond (Nat.beq pc 998) (some (.invokevirtual 111, 3)) none)))))) (cond (Nat.ble pc 1016) (cond (Nat.ble pc 1008) (cond (Nat.ble pc 1005) (cond (Nat.ble pc 1001) (cond (Nat.beq pc 1001) (some (.if_icmp .eq 28, 3)) none) (cond (Nat.ble pc 1004) (cond (Nat.beq pc 1004) (some (.iconst 0, 1)) none) (cond (Nat.beq pc 1005) (some (.ireturn, 1)) none))) (cond (Nat.ble pc 1006) (cond (Nat.beq pc 1006) (some (.aload_n 1, 1)) none) (cond (Nat.ble pc 1007) (cond (Nat.beq pc 1007) (some (.aload_n 0, 1)) none) (cond (Nat.beq pc 1008) (some (.iload_n 3, 1)) none)))) (cond (Nat.ble pc 1011) (cond (Nat.ble pc 1009) (cond (Nat.beq pc 1009) (some (.iconst 1, 1)) none) (cond (Nat.ble pc 1010) (cond (Nat.beq pc 1010) (some (.iadd, 1)) none) (cond (Nat.beq pc 1011) (some (.iaload, 1)) none))) (cond (Nat.ble pc 1012) (cond (Nat.beq pc 1012) (some (.invokevirtual 112, 3)) none) (cond (Nat.ble pc 1015) (cond (Nat.beq pc 1015) (some (.aload_n 2, 1)) none) (cond (Nat.beq pc 1016) (some (.aload_n 0, 1)) none))))) (cond (Nat.ble pc 1024) (cond (Nat.ble pc 1019) (cond (Nat.ble pc 1017) (cond (Nat.beq pc 1017) (some (.iload_n 3, 1)) none) (cond (Nat.ble pc 1018) (cond (Nat.beq pc 1018) (some (.iconst 1, 1)) none) (cond (Nat.beq pc 1019) (some (.iadd, 1)) none))) (cond (Nat.ble pc 1020) (cond (Nat.beq pc 1020) (some (.iaload, 1)) none) (cond (Nat.ble pc 1021) (cond (Nat.beq pc 1021) (some (.invokevirtual 115, 3)) none) (cond (Nat.beq pc 1024) (some (.if_icmp .eq 5, 3)) none)))) (cond (Nat.ble pc 1029) (cond (Nat.ble pc 1027) (cond (Nat.beq pc 1027) (some (.iconst 0, 1)) none) (cond (Nat.ble pc 1028) (cond (Nat.beq pc 1028) (some (.ireturn, 1)) none) (cond (Nat.beq pc 1029) (some (.iinc 3 5, 3)) none))) (cond (Nat.ble pc 1032) (cond (Nat.beq pc 1032) (some (.goto (-1014), 3)) none) (cond (Nat.ble pc 1035) (cond (Nat.beq pc 1035) (some (.iconst 1, 1)) none) (cond (Nat.beq pc 1036) (some (.ireturn, 1)) none))))))))))
def q_pgt (y : Nat) : Nat → Option (Instr × Nat) := cond (Nat.ble y 80) (cond (Nat.ble y 39) (cond (Nat.ble y 19) (cond (Nat.ble y 9) (cond (Nat.ble y 4) (cond (Nat.ble y 1) (cond (Nat.ble y 0) (q_gX0_init) (q_gX0_isGoodness)) (cond (Nat.ble y 2) (q_gX0_indexOf) (cond (Nat.ble y 3) (q_gX0_wallAt) (q_gX0_mayBeWorked)))) (cond (Nat.ble y 6) (cond (Nat.ble y 5) (q_gX0_isLoose) (q_gX0_loosenAbove)) (cond (Nat.ble y 7) (q_gX0_freeAll) (cond (Nat.ble y 8) (q_gX0_heldWalls) (q_gX0_looseWalls))))) (cond (Nat.ble y 14) (cond (Nat.ble y 11) (cond (Nat.ble y 10) (q_gX1_init) (q_gX1_hasWall)) (cond (Nat.ble y 12) (q_gX1_askFor) (cond (Nat.ble y 13) (q_gX1_setAsk) (q_gX1_take)))) (cond (Nat.ble y 16) (cond (Nat.ble y 15) (q_gX1_endMonth) (q_gX1_shareOf)) (cond (Nat.ble y 17) (q_gX1_takePay) (cond (Nat.ble y 18) (q_gX2_init) (q_gX2_nameOf)))))) (cond (Nat.ble y 29) (cond (Nat.ble y 24) (cond (Nat.ble y 21) (cond (Nat.ble y 20) (q_gX2_forget) (q_gX2_isNumberLaw)) (cond (Nat.ble y 22) (q_gX2_mayTell) (cond (Nat.ble y 23) (q_gX2_isInBounds) (q_gX2_isPoundage)))) (cond (Nat.ble y 26) (cond (Nat.ble y 25) (q_gX2_isAbovePounds) (q_gX2_tell)) (cond (Nat.ble y 27) (q_gX2_numberOf) (cond (Nat.ble y 28) (q_gX2_poundageOf) (q_gX2_letsAsk))))) (cond (Nat.ble y 34) (cond (Nat.ble y 31) (cond (Nat.ble y 30) (q_gX3_init) (q_gX3_read)) (cond (Nat.ble y 32) (q_gX3_readLaw) (cond (Nat.ble y 33) (q_gX3_require) (q_gX3_readToken)))) (cond (Nat.ble y 36) (cond (Nat.ble y 35) (q_gX3_skipBlanks) (q_gX3_takeName)) (cond (Nat.ble y 37) (q_gX3_isTakenName) (cond (Nat.ble y 38) (q_gX3_takeNumber) (q_gX3_isLetter))))))) (cond (Nat.ble y 59) (cond (Nat.ble y 49) (cond (Nat.ble y 44) (cond (Nat.ble y 41) (cond (Nat.ble y 40) (q_gX3_isFigure) (q_gX4_init)) (cond (Nat.ble y 42) (q_gX4_isSlate) (cond (Nat.ble y 43) (q_gX4_isBlock) (q_gX4_addSize)))) (cond (Nat.ble y 46) (cond (Nat.ble y 45) (q_gX4_hasSize) (q_gX4_slatesOf)) (cond (Nat.ble y 47) (q_gX4_mostOf) (cond (Nat.ble y 48) (q_gX4_mostWith) (q_gX4_cut))))) (cond (Nat.ble y 54) (cond (Nat.ble y 51) (cond (Nat.ble y 50) (q_gX4_pieceFor) (q_gX4_pieceAt)) (cond (Nat.ble y 52) (q_gX4_countSlates) (cond (Nat.ble y 53) (q_gX5_init) (q_gX5_isLane)))) (cond (Nat.ble y 56) (cond (Nat.ble y 55) (q_gX5_isNothing) (q_gX5_renew)) (cond (Nat.ble y 57) (q_gX5_hasCell) (cond (Nat.ble y 58) (q_gX5_setCell) (q_gX5_cutToLane)))))) (cond (Nat.ble y 69) (cond (Nat.ble y 64) (cond (Nat.ble y 61) (cond (Nat.ble y 60) (q_gX5_cellAt) (q_gX6_init)) (cond (Nat.ble y 62) (q_gX6_append) (cond (Nat.ble y 63) (q_gX6_keepFirst) (q_gX6_empty)))) (cond (Nat.ble y 66) (cond (Nat.ble y 65) (q_gX6_byteAt) (q_gX7_init)) (cond (Nat.ble y 67) (q_gX8_init) (cond (Nat.ble y 68) (q_gX8_feed) (q_gX8_end))))) (cond (Nat.ble y 74) (cond (Nat.ble y 71) (cond (Nat.ble y 70) (q_gX8_laws) (q_gX8_fault)) (cond (Nat.ble y 72) (q_gX8_law) (cond (Nat.ble y 73) (q_gX8_rock) (q_gX8_face)))) (cond (Nat.ble y 77) (cond (Nat.ble y 75) (q_gX8_clear) (cond (Nat.ble y 76) (q_gX8_gang) (q_gX8_told))) (cond (Nat.ble y 78) (q_gX8_move) (cond (Nat.ble y 79) (q_gX8_ask) (q_gX8_let)))))))) (cond (Nat.ble y 120) (cond (Nat.ble y 100) (cond (Nat.ble y 90) (cond (Nat.ble y 85) (cond (Nat.ble y 82) (cond (Nat.ble y 81) (q_gX8_month) (q_gX8_size)) (cond (Nat.ble y 83) (q_gX8_most) (cond (Nat.ble y 84) (q_gX8_split) (q_gX8_work)))) (cond (Nat.ble y 87) (cond (Nat.ble y 86) (q_gX8_slates) (q_gX8_sheet)) (cond (Nat.ble y 88) (q_gX8_lay) (cond (Nat.ble y 89) (q_gX8_haul) (q_gX8_count))))) (cond (Nat.ble y 95) (cond (Nat.ble y 92) (cond (Nat.ble y 91) (q_gX8_gangAt) (q_gX8_sheetAt)) (cond (Nat.ble y 93) (q_gX8_letToBest) (cond (Nat.ble y 94) (q_gX8_mayTake) (q_gX8_isBetter)))) (cond (Nat.ble y 97) (cond (Nat.ble y 96) (q_gX8_workBlock) (q_gX8_haulBlock)) (cond (Nat.ble y 98) (q_gX9_init) (cond (Nat.ble y 99) (q_gX9_in) (q_gX9_feed)))))) (cond (Nat.ble y 110) (cond (Nat.ble y 105) (cond (Nat.ble y 102) (cond (Nat.ble y 101) (q_gX9_end) (q_gX9_fails)) (cond (Nat.ble y 103) (q_gX9_look) (cond (Nat.ble y 104) (q_gX9_isName) (q_gX9_nameNow)))) (cond (Nat.ble y 107) (cond (Nat.ble y 106) (q_gX9_next) (q_gX9_wants)) (cond (Nat.ble y 108) (q_gX9_taken) (cond (Nat.ble y 109) (q_gX9_readLaw) (q_gX9_lawMany))))) (cond (Nat.ble y 115) (cond (Nat.ble y 112) (cond (Nat.ble y 111) (q_gX9_laws) (q_gX9_fault)) (cond (Nat.ble y 113) (q_gX9_poundage) (cond (Nat.ble y 114) (q_gX9_lawOf) (q_gX9_law)))) (cond (Nat.ble y 117) (cond (Nat.ble y 116) (q_gX9_isFace) (q_gX9_isGang)) (cond (Nat.ble y 118) (q_gX9_rock) (cond (Nat.ble y 119) (q_gX9_mayBeWorked) (q_gX9_face))))))) (cond (Nat.ble y 140) (cond (Nat.ble y 130) (cond (Nat.ble y 125) (cond (Nat.ble y 122) (cond (Nat.ble y 121) (q_gX9_clear) (q_gX9_gang)) (cond (Nat.ble y 123) (q_gX9_told) (cond (Nat.ble y 124) (q_gX9_move) (q_gX9_askMany)))) (cond (Nat.ble y 127) (cond (Nat.ble y 126) (q_gX9_ask) (q_gX9_let)) (cond (Nat.ble y 128) (q_gX9_month) (cond (Nat.ble y 129) (q_gX9_size) (q_gX9_isBlock))))) (cond (Nat.ble y 135) (cond (Nat.ble y 132) (cond (Nat.ble y 131) (q_gX9_fits) (q_gX9_mostOf)) (cond (Nat.ble y 133) (q_gX9_choice) (cond (Nat.ble y 134) (q_gX9_most) (q_gX9_split)))) (cond (Nat.ble y 137) (cond (Nat.ble y 136) (q_gX9_mayWork) (q_gX9_works)) (cond (Nat.ble y 138) (q_gX9_work) (cond (Nat.ble y 139) (q_gX9_slates) (q_gX9_isSheet)))))) (cond (Nat.ble y 150) (cond (Nat.ble y 145) (cond (Nat.ble y 142) (cond (Nat.ble y 141) (q_gX9_sheet) (q_gX9_lay)) (cond (Nat.ble y 143) (q_gX9_haul) (cond (Nat.ble y 144) (q_gX9_count) (q_gJ6_compare_7cf53)))) (cond (Nat.ble y 147) (cond (Nat.ble y 146) (q_gJ9_floorDiv_f86c9) (q_gJ9_max_7cf53)) (cond (Nat.ble y 148) (q_gJ0_length_8abf5) (cond (Nat.ble y 149) (q_gJ0_charAt_5068e) (q_gJ0_coder_7d493))))) (cond (Nat.ble y 155) (cond (Nat.ble y 152) (cond (Nat.ble y 151) (q_gJ0_isLatin1_aae02) (q_gJ0_checkIndex_df160)) (cond (Nat.ble y 153) (q_gJ1_charAt_3b067) (cond (Nat.ble y 154) (q_gJ2_getChar_3b067) (q_gJ2_length_9d52b)))) (cond (Nat.ble y 158) (cond (Nat.ble y 156) (q_gJ2_charAt_3b067) (cond (Nat.ble y 157) (q_gJ2_checkIndex_2214a) (q_gJ7_fill_d0a16))) (cond (Nat.ble y 159) (q_gJ7_fill_53178) (cond (Nat.ble y 160) (q_gJ3_checkIndex_8e157) (q_gL_law))))))))
def q_len (y : Nat) : Nat := cond (Nat.ble y 80) (cond (Nat.ble y 39) (cond (Nat.ble y 19) (cond (Nat.ble y 9) (cond (Nat.ble y 4) (cond (Nat.ble y 1) (cond (Nat.ble y 0) (41) (16)) (cond (Nat.ble y 2) (29) (cond (Nat.ble y 3) (21) (36)))) (cond (Nat.ble y 6) (cond (Nat.ble y 5) (23) (53)) (cond (Nat.ble y 7) (31) (cond (Nat.ble y 8) (40) (29))))) (cond (Nat.ble y 14) (cond (Nat.ble y 11) (cond (Nat.ble y 10) (58) (15)) (cond (Nat.ble y 12) (22) (cond (Nat.ble y 13) (18) (25)))) (cond (Nat.ble y 16) (cond (Nat.ble y 15) (26) (30)) (cond (Nat.ble y 17) (48) (cond (Nat.ble y 18) (47) (47)))))) (cond (Nat.ble y 29) (cond (Nat.ble y 24) (cond (Nat.ble y 21) (cond (Nat.ble y 20) (42) (15)) (cond (Nat.ble y 22) (38) (cond (Nat.ble y 23) (33) (17)))) (cond (Nat.ble y 26) (cond (Nat.ble y 25) (37) (83)) (cond (Nat.ble y 27) (19) (cond (Nat.ble y 28) (40) (27))))) (cond (Nat.ble y 34) (cond (Nat.ble y 31) (cond (Nat.ble y 30) (41) (57)) (cond (Nat.ble y 32) (164) (cond (Nat.ble y 33) (17) (105)))) (cond (Nat.ble y 36) (cond (Nat.ble y 35) (42) (102)) (cond (Nat.ble y 37) (59) (cond (Nat.ble y 38) (102) (18))))))) (cond (Nat.ble y 59) (cond (Nat.ble y 49) (cond (Nat.ble y 44) (cond (Nat.ble y 41) (cond (Nat.ble y 40) (18) (65)) (cond (Nat.ble y 42) (29) (cond (Nat.ble y 43) (29) (43)))) (cond (Nat.ble y 46) (cond (Nat.ble y 45) (24) (19)) (cond (Nat.ble y 47) (96) (cond (Nat.ble y 48) (83) (117))))) (cond (Nat.ble y 54) (cond (Nat.ble y 51) (cond (Nat.ble y 50) (55) (30)) (cond (Nat.ble y 52) (41) (cond (Nat.ble y 53) (24) (15)))) (cond (Nat.ble y 56) (cond (Nat.ble y 55) (15) (19)) (cond (Nat.ble y 57) (30) (cond (Nat.ble y 58) (21) (44)))))) (cond (Nat.ble y 69) (cond (Nat.ble y 64) (cond (Nat.ble y 61) (cond (Nat.ble y 60) (20) (19)) (cond (Nat.ble y 62) (51) (cond (Nat.ble y 63) (21) (6)))) (cond (Nat.ble y 66) (cond (Nat.ble y 65) (34) (26)) (cond (Nat.ble y 67) (143) (cond (Nat.ble y 68) (30) (31))))) (cond (Nat.ble y 74) (cond (Nat.ble y 71) (cond (Nat.ble y 70) (76) (5)) (cond (Nat.ble y 72) (43) (cond (Nat.ble y 73) (44) (112)))) (cond (Nat.ble y 77) (cond (Nat.ble y 75) (71) (cond (Nat.ble y 76) (56) (85))) (cond (Nat.ble y 78) (139) (cond (Nat.ble y 79) (93) (55)))))))) (cond (Nat.ble y 120) (cond (Nat.ble y 100) (cond (Nat.ble y 90) (cond (Nat.ble y 85) (cond (Nat.ble y 82) (cond (Nat.ble y 81) (73) (20)) (cond (Nat.ble y 83) (23) (cond (Nat.ble y 84) (35) (52)))) (cond (Nat.ble y 87) (cond (Nat.ble y 86) (24) (43)) (cond (Nat.ble y 88) (47) (cond (Nat.ble y 89) (99) (120))))) (cond (Nat.ble y 95) (cond (Nat.ble y 92) (cond (Nat.ble y 91) (34) (20)) (cond (Nat.ble y 93) (95) (cond (Nat.ble y 94) (42) (57)))) (cond (Nat.ble y 97) (cond (Nat.ble y 96) (180) (106)) (cond (Nat.ble y 98) (289) (cond (Nat.ble y 99) (19) (61)))))) (cond (Nat.ble y 110) (cond (Nat.ble y 105) (cond (Nat.ble y 102) (cond (Nat.ble y 101) (28) (18)) (cond (Nat.ble y 103) (19) (cond (Nat.ble y 104) (121) (95)))) (cond (Nat.ble y 107) (cond (Nat.ble y 106) (297) (56)) (cond (Nat.ble y 108) (18) (cond (Nat.ble y 109) (290) (39))))) (cond (Nat.ble y 115) (cond (Nat.ble y 112) (cond (Nat.ble y 111) (143) (5)) (cond (Nat.ble y 113) (35) (cond (Nat.ble y 114) (27) (47)))) (cond (Nat.ble y 117) (cond (Nat.ble y 116) (30) (14)) (cond (Nat.ble y 118) (50) (cond (Nat.ble y 119) (37) (112))))))) (cond (Nat.ble y 140) (cond (Nat.ble y 130) (cond (Nat.ble y 125) (cond (Nat.ble y 122) (cond (Nat.ble y 121) (67) (64)) (cond (Nat.ble y 123) (117) (cond (Nat.ble y 124) (176) (38)))) (cond (Nat.ble y 127) (cond (Nat.ble y 126) (64) (245)) (cond (Nat.ble y 128) (104) (cond (Nat.ble y 129) (75) (26))))) (cond (Nat.ble y 135) (cond (Nat.ble y 132) (cond (Nat.ble y 131) (68) (133)) (cond (Nat.ble y 133) (67) (cond (Nat.ble y 134) (20) (87)))) (cond (Nat.ble y 137) (cond (Nat.ble y 136) (30) (284)) (cond (Nat.ble y 138) (41) (cond (Nat.ble y 139) (27) (30)))))) (cond (Nat.ble y 150) (cond (Nat.ble y 145) (cond (Nat.ble y 142) (cond (Nat.ble y 141) (68) (92)) (cond (Nat.ble y 143) (210) (cond (Nat.ble y 144) (158) (20)))) (cond (Nat.ble y 147) (cond (Nat.ble y 146) (30) (11)) (cond (Nat.ble y 148) (11) (cond (Nat.ble y 149) (25) (15))))) (cond (Nat.ble y 155) (cond (Nat.ble y 152) (cond (Nat.ble y 151) (19) (10)) (cond (Nat.ble y 153) (15) (cond (Nat.ble y 154) (60) (5)))) (cond (Nat.ble y 158) (cond (Nat.ble y 156) (11) (cond (Nat.ble y 157) (9) (23))) (cond (Nat.ble y 159) (21) (cond (Nat.ble y 160) (18) (1037))))))))
def q_pg (y pc : Nat) : Option (Instr × Nat) := cond (Nat.ble 162 y) none (cond (Nat.ble (q_len y) pc) none (q_pgt y pc))
def q_fls (o : Nat) : List (Nat × Nat × Nat) := cond (Nat.ble o 8) (cond (Nat.ble o 3) (cond (Nat.ble o 1) (cond (Nat.ble o 0) ([(30, 7, 1), (26, 7, 2), (34, 7, 3), (13, 0, 0)]) ([(11, 1, 0), (37, 1, 1), (17, 1, 2), (21, 1, 3), (24, 1, 4), (27, 1, 5), (30, 1, 6), (33, 1, 7)])) (cond (Nat.ble o 2) ([(11, 2, 0), (15, 2, 1), (19, 2, 2), (22, 2, 3), (25, 2, 4), (29, 2, 5)]) ([(12, 3, 0), (18, 3, 1), (22, 3, 2), (25, 3, 3), (28, 3, 4), (31, 3, 5)]))) (cond (Nat.ble o 5) (cond (Nat.ble o 4) ([(11, 4, 0), (15, 4, 1), (18, 4, 2), (21, 4, 3), (25, 4, 4), (28, 4, 5), (31, 4, 6), (34, 4, 7), (37, 4, 8)]) ([(11, 5, 0), (15, 5, 1), (19, 5, 2)])) (cond (Nat.ble o 6) ([(9, 6, 0), (13, 6, 1)]) (cond (Nat.ble o 7) ([(9, 7, 0), (15, 7, 1), (18, 7, 2), (22, 7, 3)]) ([(89, 6, 1), (79, 3, 0), (106, 3, 5), (109, 2, 5), (130, 7, 0), (135, 7, 1), (138, 7, 2), (144, 7, 3), (255, 4, 3), (289, 4, 7), (295, 4, 8), (248, 5, 2), (10, 8, 0), (19, 8, 1), (23, 8, 2), (26, 8, 3), (33, 8, 4), (39, 8, 5), (43, 8, 6), (46, 8, 7), (49, 8, 8), (53, 8, 9), (59, 8, 10), (63, 8, 11), (66, 8, 12), (69, 8, 13), (74, 8, 14), (154, 1, 1), (151, 1, 2), (161, 1, 3), (164, 1, 4), (167, 1, 5), (170, 1, 6)]))))) (cond (Nat.ble o 12) (cond (Nat.ble o 10) (cond (Nat.ble o 9) ([(7, 9, 0), (90, 9, 1), (106, 9, 2), (109, 9, 3), (120, 9, 4), (131, 9, 5), (100, 9, 6), (103, 9, 7), (13, 9, 8), (154, 9, 9), (16, 9, 10), (19, 9, 11), (22, 9, 12), (145, 9, 13), (25, 9, 14), (28, 9, 15), (31, 9, 16), (34, 9, 17), (37, 9, 18), (41, 9, 19), (179, 9, 20), (44, 9, 21), (47, 9, 22), (50, 9, 23), (53, 9, 24), (56, 9, 25), (59, 9, 26), (62, 9, 27), (65, 9, 28), (201, 9, 29), (208, 9, 30), (236, 9, 31), (215, 9, 32), (68, 9, 33), (71, 9, 34), (74, 9, 35), (242, 9, 36), (239, 9, 37), (77, 9, 38), (80, 9, 39), (83, 9, 40), (86, 9, 41)]) ([])) (cond (Nat.ble o 11) ([]) ([]))) (cond (Nat.ble o 14) (cond (Nat.ble o 13) ([]) ([])) (cond (Nat.ble o 15) ([]) (cond (Nat.ble o 16) ([]) ([])))))
def q_fl (o idx : Nat) : Option (Nat × Nat) := ((q_fls o).find? (fun x => Nat.beq x.1 idx)).map (·.2)
def q_cls (o : Nat) : List (Nat × Nat × Nat × Nat × Nat × Nat) := cond (Nat.ble o 8) (cond (Nat.ble o 3) (cond (Nat.ble o 1) (cond (Nat.ble o 0) ([(17, 3, 66, 2, 148, 0), (18, 0, 3, 465, 454, 455), (22, 0, 5, 466, 468, 7)]) ([(40, 1, 159, 488, 489, 0), (50, 1, 146, 540, 541, 0), (46, 0, 12, 581, 548, 549)])) (cond (Nat.ble o 2) ([(32, 0, 20, 110, 111, 112), (48, 1, 21, 402, 403, 0)]) ([(11, 3, 61, 1, 71, 0), (34, 0, 34, 304, 306, 0), (65, 0, 35, 308, 310, 1), (68, 0, 65, 312, 313, 314), (72, 1, 39, 316, 317, 0), (75, 0, 36, 319, 321, 2), (84, 1, 19, 323, 324, 0), (88, 0, 37, 331, 333, 3), (92, 0, 148, 335, 336, 337), (98, 0, 149, 345, 346, 347), (41, 0, 33, 383, 385, 4), (78, 1, 40, 387, 388, 0), (81, 0, 38, 390, 392, 5), (37, 0, 32, 394, 396, 6), (45, 0, 22, 398, 399, 400), (51, 1, 23, 405, 406, 0), (55, 0, 25, 412, 413, 414), (58, 1, 24, 416, 417, 0), (61, 0, 26, 419, 420, 421)]))) (cond (Nat.ble o 5) (cond (Nat.ble o 4) ([(46, 1, 43, 617, 610, 0), (50, 0, 48, 618, 620, 11), (42, 0, 45, 622, 623, 624), (54, 1, 147, 626, 627, 0), (60, 0, 47, 637, 614, 615), (64, 0, 50, 638, 640, 12), (68, 0, 51, 658, 643, 644)]) ([(22, 1, 158, 691, 692, 0), (30, 0, 57, 711, 703, 704), (34, 0, 59, 712, 714, 15)])) (cond (Nat.ble o 6) ([]) (cond (Nat.ble o 7) ([]) ([(9, 3, 30, 0, 65, 0), (18, 2, 18, 106, 107, 0), (32, 2, 0, 140, 141, 0), (58, 3, 41, 3, 180, 0), (78, 3, 53, 4, 218, 0), (83, 0, 62, 283, 284, 285), (92, 0, 63, 291, 292, 293), (96, 0, 20, 299, 111, 112), (99, 0, 31, 300, 301, 302), (103, 0, 64, 423, 424, 425), (112, 0, 27, 435, 436, 437), (116, 1, 1, 439, 440, 0), (119, 0, 28, 442, 443, 444), (122, 1, 2, 450, 451, 0), (126, 0, 3, 453, 454, 455), (141, 0, 4, 461, 462, 463), (147, 0, 91, 474, 476, 8), (157, 2, 10, 484, 485, 0), (173, 0, 11, 531, 532, 533), (178, 0, 16, 536, 537, 538), (181, 0, 12, 547, 548, 549), (184, 0, 13, 551, 552, 553), (188, 0, 93, 559, 561, 9), (267, 0, 94, 563, 565, 10), (278, 0, 29, 567, 568, 569), (271, 1, 95, 571, 572, 0), (281, 1, 145, 574, 575, 0), (275, 0, 14, 577, 578, 579), (191, 0, 15, 586, 587, 588), (194, 0, 7, 590, 591, 592), (197, 1, 42, 598, 599, 0), (201, 0, 44, 601, 602, 603), (204, 1, 43, 609, 610, 0), (208, 0, 47, 613, 614, 615), (212, 0, 49, 633, 634, 635), (216, 0, 51, 642, 643, 644), (219, 0, 96, 650, 652, 13), (286, 0, 52, 654, 655, 656), (292, 0, 6, 659, 660, 661), (298, 0, 17, 663, 664, 665), (223, 0, 45, 671, 623, 624), (226, 0, 46, 672, 673, 674), (229, 0, 92, 680, 682, 14), (233, 1, 54, 684, 685, 0), (236, 0, 56, 687, 688, 689), (239, 0, 55, 698, 699, 700), (242, 0, 57, 702, 703, 704), (245, 0, 58, 707, 708, 709), (251, 0, 97, 720, 722, 16), (303, 0, 60, 725, 726, 727), (258, 0, 8, 734, 735, 736), (262, 0, 9, 738, 739, 740)]))))) (cond (Nat.ble o 12) (cond (Nat.ble o 10) (cond (Nat.ble o 9) ([(96, 1, 99, 884, 885, 0), (142, 0, 106, 891, 893, 17), (112, 0, 103, 895, 897, 18), (127, 0, 105, 901, 903, 19), (116, 0, 104, 905, 907, 20), (134, 0, 102, 909, 911, 21), (157, 0, 109, 915, 917, 22), (148, 0, 107, 919, 921, 23), (151, 0, 108, 923, 925, 24), (160, 0, 110, 927, 929, 25), (165, 0, 114, 940, 942, 26), (172, 0, 113, 946, 948, 27), (182, 1, 116, 954, 955, 0), (188, 0, 119, 964, 966, 28), (192, 0, 117, 972, 974, 29), (205, 0, 125, 996, 998, 30), (224, 1, 130, 1018, 1019, 0), (228, 0, 132, 1022, 1024, 31), (220, 0, 131, 1026, 1028, 32), (232, 0, 133, 1034, 1036, 33), (245, 0, 136, 1042, 1044, 34), (248, 0, 137, 1046, 1048, 35), (253, 1, 140, 1058, 1059, 0)]) ([])) (cond (Nat.ble o 11) ([]) ([(335, 0, 150, 339, 340, 341), (492, 0, 151, 349, 350, 351), (495, 1, 153, 353, 354, 0), (1059, 1, 160, 361, 362, 0), (498, 1, 156, 364, 365, 0)]))) (cond (Nat.ble o 14) (cond (Nat.ble o 13) ([(9, 1, 152, 356, 357, 0)]) ([(67, 1, 157, 367, 368, 0), (48, 1, 155, 370, 371, 0), (414, 1, 152, 373, 357, 0), (71, 1, 154, 374, 375, 0)])) (cond (Nat.ble o 15) ([]) (cond (Nat.ble o 16) ([]) ([(9, 2, 67, 56, 57, 0), (15, 0, 68, 279, 280, 281), (20, 0, 69, 287, 288, 289), (25, 0, 70, 295, 296, 297), (30, 0, 71, 427, 428, 429), (34, 0, 72, 431, 432, 433), (38, 0, 73, 446, 447, 448), (43, 0, 74, 457, 458, 459), (47, 0, 75, 470, 471, 472), (51, 0, 76, 479, 480, 481), (55, 0, 77, 522, 523, 524), (60, 0, 78, 527, 528, 529), (64, 0, 79, 543, 544, 545), (69, 0, 80, 555, 556, 557), (73, 0, 81, 582, 583, 584), (77, 0, 82, 594, 595, 596), (81, 0, 83, 605, 606, 607), (86, 0, 84, 629, 630, 631), (91, 0, 85, 646, 647, 648), (96, 0, 86, 667, 668, 669), (100, 0, 87, 676, 677, 678), (104, 0, 88, 694, 695, 696), (108, 0, 89, 716, 717, 718), (112, 0, 90, 730, 731, 732), (12, 2, 98, 744, 745, 0), (19, 0, 100, 875, 876, 877), (24, 0, 101, 880, 881, 882), (29, 0, 111, 887, 888, 889), (33, 0, 112, 931, 932, 933), (37, 0, 115, 935, 936, 937), (42, 0, 118, 950, 951, 952), (46, 0, 120, 960, 961, 962), (50, 0, 121, 968, 969, 970), (54, 0, 122, 976, 977, 978), (59, 0, 123, 981, 982, 983), (63, 0, 124, 986, 987, 988), (68, 0, 126, 991, 992, 993), (72, 0, 127, 1000, 1001, 1002), (76, 0, 128, 1004, 1005, 1006), (80, 0, 129, 1008, 1009, 1010), (85, 0, 134, 1014, 1015, 1016), (90, 0, 135, 1030, 1031, 1032), (95, 0, 138, 1038, 1039, 1040), (99, 0, 139, 1050, 1051, 1052), (103, 0, 141, 1054, 1055, 1056), (107, 0, 142, 1062, 1063, 1064), (111, 0, 143, 1066, 1067, 1068), (115, 0, 144, 1070, 1071, 1072)])))))
def q_ck (o idx : Nat) : Option (Nat × Nat) := ((q_cls o).find? (fun x => Nat.beq x.1 idx)).map (fun x => (x.2.1, x.2.2.1))
def q_cpo (y : Nat) : Nat := cond (Nat.ble y 80) (cond (Nat.ble y 39) (cond (Nat.ble y 19) (cond (Nat.ble y 9) (cond (Nat.ble y 4) (cond (Nat.ble y 1) (cond (Nat.ble y 0) (142) (441)) (cond (Nat.ble y 2) (452) (cond (Nat.ble y 3) (456) (464)))) (cond (Nat.ble y 6) (cond (Nat.ble y 5) (469) (662)) (cond (Nat.ble y 7) (593) (cond (Nat.ble y 8) (737) (741))))) (cond (Nat.ble y 14) (cond (Nat.ble y 11) (cond (Nat.ble y 10) (486) (534)) (cond (Nat.ble y 12) (550) (cond (Nat.ble y 13) (554) (580)))) (cond (Nat.ble y 16) (cond (Nat.ble y 15) (589) (539)) (cond (Nat.ble y 17) (666) (cond (Nat.ble y 18) (108) (325)))))) (cond (Nat.ble y 29) (cond (Nat.ble y 24) (cond (Nat.ble y 21) (cond (Nat.ble y 20) (113) (404)) (cond (Nat.ble y 22) (401) (cond (Nat.ble y 23) (407) (418)))) (cond (Nat.ble y 26) (cond (Nat.ble y 25) (415) (422)) (cond (Nat.ble y 27) (438) (cond (Nat.ble y 28) (445) (570))))) (cond (Nat.ble y 34) (cond (Nat.ble y 31) (cond (Nat.ble y 30) (66) (303)) (cond (Nat.ble y 32) (397) (cond (Nat.ble y 33) (386) (307)))) (cond (Nat.ble y 36) (cond (Nat.ble y 35) (311) (322)) (cond (Nat.ble y 37) (334) (cond (Nat.ble y 38) (393) (318))))))) (cond (Nat.ble y 59) (cond (Nat.ble y 49) (cond (Nat.ble y 44) (cond (Nat.ble y 41) (cond (Nat.ble y 40) (389) (181)) (cond (Nat.ble y 42) (600) (cond (Nat.ble y 43) (611) (604)))) (cond (Nat.ble y 46) (cond (Nat.ble y 45) (625) (675)) (cond (Nat.ble y 47) (616) (cond (Nat.ble y 48) (621) (636))))) (cond (Nat.ble y 54) (cond (Nat.ble y 51) (cond (Nat.ble y 50) (641) (645)) (cond (Nat.ble y 52) (657) (cond (Nat.ble y 53) (219) (686)))) (cond (Nat.ble y 56) (cond (Nat.ble y 55) (701) (690)) (cond (Nat.ble y 57) (705) (cond (Nat.ble y 58) (710) (715)))))) (cond (Nat.ble y 69) (cond (Nat.ble y 64) (cond (Nat.ble y 61) (cond (Nat.ble y 60) (728) (72)) (cond (Nat.ble y 62) (286) (cond (Nat.ble y 63) (294) (426)))) (cond (Nat.ble y 66) (cond (Nat.ble y 65) (315) (149)) (cond (Nat.ble y 67) (58) (cond (Nat.ble y 68) (282) (290))))) (cond (Nat.ble y 74) (cond (Nat.ble y 71) (cond (Nat.ble y 70) (298) (430)) (cond (Nat.ble y 72) (434) (cond (Nat.ble y 73) (449) (460)))) (cond (Nat.ble y 77) (cond (Nat.ble y 75) (473) (cond (Nat.ble y 76) (482) (525))) (cond (Nat.ble y 78) (530) (cond (Nat.ble y 79) (546) (558)))))))) (cond (Nat.ble y 120) (cond (Nat.ble y 100) (cond (Nat.ble y 90) (cond (Nat.ble y 85) (cond (Nat.ble y 82) (cond (Nat.ble y 81) (585) (597)) (cond (Nat.ble y 83) (608) (cond (Nat.ble y 84) (632) (649)))) (cond (Nat.ble y 87) (cond (Nat.ble y 86) (670) (679)) (cond (Nat.ble y 88) (697) (cond (Nat.ble y 89) (719) (733))))) (cond (Nat.ble y 95) (cond (Nat.ble y 92) (cond (Nat.ble y 91) (477) (683)) (cond (Nat.ble y 93) (562) (cond (Nat.ble y 94) (566) (573)))) (cond (Nat.ble y 97) (cond (Nat.ble y 96) (653) (723)) (cond (Nat.ble y 98) (746) (cond (Nat.ble y 99) (886) (878)))))) (cond (Nat.ble y 110) (cond (Nat.ble y 105) (cond (Nat.ble y 102) (cond (Nat.ble y 101) (883) (912)) (cond (Nat.ble y 103) (898) (cond (Nat.ble y 104) (908) (904)))) (cond (Nat.ble y 107) (cond (Nat.ble y 106) (894) (922)) (cond (Nat.ble y 108) (926) (cond (Nat.ble y 109) (918) (930))))) (cond (Nat.ble y 115) (cond (Nat.ble y 112) (cond (Nat.ble y 111) (890) (934)) (cond (Nat.ble y 113) (949) (cond (Nat.ble y 114) (943) (938)))) (cond (Nat.ble y 117) (cond (Nat.ble y 116) (956) (975)) (cond (Nat.ble y 118) (953) (cond (Nat.ble y 119) (967) (963))))))) (cond (Nat.ble y 140) (cond (Nat.ble y 130) (cond (Nat.ble y 125) (cond (Nat.ble y 122) (cond (Nat.ble y 121) (971) (979)) (cond (Nat.ble y 123) (984) (cond (Nat.ble y 124) (989) (999)))) (cond (Nat.ble y 127) (cond (Nat.ble y 126) (994) (1003)) (cond (Nat.ble y 128) (1007) (cond (Nat.ble y 129) (1011) (1020))))) (cond (Nat.ble y 135) (cond (Nat.ble y 132) (cond (Nat.ble y 131) (1029) (1025)) (cond (Nat.ble y 133) (1037) (cond (Nat.ble y 134) (1017) (1033)))) (cond (Nat.ble y 137) (cond (Nat.ble y 136) (1045) (1049)) (cond (Nat.ble y 138) (1041) (cond (Nat.ble y 139) (1053) (1060)))))) (cond (Nat.ble y 150) (cond (Nat.ble y 145) (cond (Nat.ble y 142) (cond (Nat.ble y 141) (1057) (1065)) (cond (Nat.ble y 143) (1069) (cond (Nat.ble y 144) (1073) (576)))) (cond (Nat.ble y 147) (cond (Nat.ble y 146) (542) (628)) (cond (Nat.ble y 148) (338) (cond (Nat.ble y 149) (348) (342))))) (cond (Nat.ble y 155) (cond (Nat.ble y 152) (cond (Nat.ble y 151) (352) (358)) (cond (Nat.ble y 153) (355) (cond (Nat.ble y 154) (376) (372)))) (cond (Nat.ble y 158) (cond (Nat.ble y 156) (366) (cond (Nat.ble y 157) (369) (693))) (cond (Nat.ble y 159) (490) (cond (Nat.ble y 160) (363) (0))))))))
def q_ipo (y : Nat) : Nat := cond (Nat.ble y 80) (cond (Nat.ble y 39) (cond (Nat.ble y 19) (cond (Nat.ble y 9) (cond (Nat.ble y 4) (cond (Nat.ble y 1) (cond (Nat.ble y 0) (41) (41)) (cond (Nat.ble y 2) (41) (cond (Nat.ble y 3) (41) (41)))) (cond (Nat.ble y 6) (cond (Nat.ble y 5) (41) (41)) (cond (Nat.ble y 7) (41) (cond (Nat.ble y 8) (41) (41))))) (cond (Nat.ble y 14) (cond (Nat.ble y 11) (cond (Nat.ble y 10) (50) (50)) (cond (Nat.ble y 12) (50) (cond (Nat.ble y 13) (50) (50)))) (cond (Nat.ble y 16) (cond (Nat.ble y 15) (50) (50)) (cond (Nat.ble y 17) (50) (cond (Nat.ble y 18) (40) (40)))))) (cond (Nat.ble y 29) (cond (Nat.ble y 24) (cond (Nat.ble y 21) (cond (Nat.ble y 20) (40) (40)) (cond (Nat.ble y 22) (40) (cond (Nat.ble y 23) (40) (40)))) (cond (Nat.ble y 26) (cond (Nat.ble y 25) (40) (40)) (cond (Nat.ble y 27) (40) (cond (Nat.ble y 28) (40) (40))))) (cond (Nat.ble y 34) (cond (Nat.ble y 31) (cond (Nat.ble y 30) (38) (38)) (cond (Nat.ble y 32) (38) (cond (Nat.ble y 33) (38) (38)))) (cond (Nat.ble y 36) (cond (Nat.ble y 35) (38) (38)) (cond (Nat.ble y 37) (38) (cond (Nat.ble y 38) (38) (38))))))) (cond (Nat.ble y 59) (cond (Nat.ble y 49) (cond (Nat.ble y 44) (cond (Nat.ble y 41) (cond (Nat.ble y 40) (38) (43)) (cond (Nat.ble y 42) (43) (cond (Nat.ble y 43) (43) (43)))) (cond (Nat.ble y 46) (cond (Nat.ble y 45) (43) (43)) (cond (Nat.ble y 47) (43) (cond (Nat.ble y 48) (43) (43))))) (cond (Nat.ble y 54) (cond (Nat.ble y 51) (cond (Nat.ble y 50) (43) (43)) (cond (Nat.ble y 52) (43) (cond (Nat.ble y 53) (44) (44)))) (cond (Nat.ble y 56) (cond (Nat.ble y 55) (44) (44)) (cond (Nat.ble y 57) (44) (cond (Nat.ble y 58) (44) (44)))))) (cond (Nat.ble y 69) (cond (Nat.ble y 64) (cond (Nat.ble y 61) (cond (Nat.ble y 60) (44) (39)) (cond (Nat.ble y 62) (39) (cond (Nat.ble y 63) (39) (39)))) (cond (Nat.ble y 66) (cond (Nat.ble y 65) (39) (42)) (cond (Nat.ble y 67) (37) (cond (Nat.ble y 68) (37) (37))))) (cond (Nat.ble y 74) (cond (Nat.ble y 71) (cond (Nat.ble y 70) (37) (37)) (cond (Nat.ble y 72) (37) (cond (Nat.ble y 73) (37) (37)))) (cond (Nat.ble y 77) (cond (Nat.ble y 75) (37) (cond (Nat.ble y 76) (37) (37))) (cond (Nat.ble y 78) (37) (cond (Nat.ble y 79) (37) (37)))))))) (cond (Nat.ble y 120) (cond (Nat.ble y 100) (cond (Nat.ble y 90) (cond (Nat.ble y 85) (cond (Nat.ble y 82) (cond (Nat.ble y 81) (37) (37)) (cond (Nat.ble y 83) (37) (cond (Nat.ble y 84) (37) (37)))) (cond (Nat.ble y 87) (cond (Nat.ble y 86) (37) (37)) (cond (Nat.ble y 88) (37) (cond (Nat.ble y 89) (37) (37))))) (cond (Nat.ble y 95) (cond (Nat.ble y 92) (cond (Nat.ble y 91) (37) (37)) (cond (Nat.ble y 93) (37) (cond (Nat.ble y 94) (37) (37)))) (cond (Nat.ble y 97) (cond (Nat.ble y 96) (37) (37)) (cond (Nat.ble y 98) (45) (cond (Nat.ble y 99) (45) (45)))))) (cond (Nat.ble y 110) (cond (Nat.ble y 105) (cond (Nat.ble y 102) (cond (Nat.ble y 101) (45) (45)) (cond (Nat.ble y 103) (45) (cond (Nat.ble y 104) (45) (45)))) (cond (Nat.ble y 107) (cond (Nat.ble y 106) (45) (45)) (cond (Nat.ble y 108) (45) (cond (Nat.ble y 109) (45) (45))))) (cond (Nat.ble y 115) (cond (Nat.ble y 112) (cond (Nat.ble y 111) (45) (45)) (cond (Nat.ble y 113) (45) (cond (Nat.ble y 114) (45) (45)))) (cond (Nat.ble y 117) (cond (Nat.ble y 116) (45) (45)) (cond (Nat.ble y 118) (45) (cond (Nat.ble y 119) (45) (45))))))) (cond (Nat.ble y 140) (cond (Nat.ble y 130) (cond (Nat.ble y 125) (cond (Nat.ble y 122) (cond (Nat.ble y 121) (45) (45)) (cond (Nat.ble y 123) (45) (cond (Nat.ble y 124) (45) (45)))) (cond (Nat.ble y 127) (cond (Nat.ble y 126) (45) (45)) (cond (Nat.ble y 128) (45) (cond (Nat.ble y 129) (45) (45))))) (cond (Nat.ble y 135) (cond (Nat.ble y 132) (cond (Nat.ble y 131) (45) (45)) (cond (Nat.ble y 133) (45) (cond (Nat.ble y 134) (45) (45)))) (cond (Nat.ble y 137) (cond (Nat.ble y 136) (45) (45)) (cond (Nat.ble y 138) (45) (cond (Nat.ble y 139) (45) (45)))))) (cond (Nat.ble y 150) (cond (Nat.ble y 145) (cond (Nat.ble y 142) (cond (Nat.ble y 141) (45) (45)) (cond (Nat.ble y 143) (45) (cond (Nat.ble y 144) (45) (53)))) (cond (Nat.ble y 147) (cond (Nat.ble y 146) (52) (52)) (cond (Nat.ble y 148) (46) (cond (Nat.ble y 149) (46) (46))))) (cond (Nat.ble y 155) (cond (Nat.ble y 152) (cond (Nat.ble y 151) (46) (46)) (cond (Nat.ble y 153) (47) (cond (Nat.ble y 154) (49) (49)))) (cond (Nat.ble y 158) (cond (Nat.ble y 156) (49) (cond (Nat.ble y 157) (49) (51))) (cond (Nat.ble y 159) (51) (cond (Nat.ble y 160) (48) (36))))))))
def q_cts (o : Nat) : List (Nat × Value) := cond (Nat.ble o 8) (cond (Nat.ble o 3) (cond (Nat.ble o 1) (cond (Nat.ble o 0) ([]) ([])) (cond (Nat.ble o 2) ([]) ([]))) (cond (Nat.ble o 5) (cond (Nat.ble o 4) ([(40, .long 40)]) ([(28, .long 60)])) (cond (Nat.ble o 6) ([]) (cond (Nat.ble o 7) ([]) ([(265, .long 8), (160, .int (-1000000)), (177, .int (-1000002)), (301, .long 3), (307, .long 2)]))))) (cond (Nat.ble o 12) (cond (Nat.ble o 10) (cond (Nat.ble o 9) ([(94, .long 255), (123, .long 97), (125, .long 122), (138, .long 48), (140, .long 57), (163, .long 3), (168, .long 10), (170, .long 19), (175, .long 4), (177, .long 5), (186, .long 9), (195, .long 6), (197, .int (-1000000)), (198, .int (-1000002)), (199, .long 9999), (211, .long 20), (213, .long 200), (218, .long 40), (251, .long 2)]) ([])) (cond (Nat.ble o 11) ([]) ([]))) (cond (Nat.ble o 14) (cond (Nat.ble o 13) ([]) ([])) (cond (Nat.ble o 15) ([]) (cond (Nat.ble o 16) ([]) ([(13, .long 4294967295)])))))
def q_ct (o idx : Nat) : Option Value := ((q_cts o).find? (fun x => Nat.beq x.1 idx)).map (·.2)
def q_nws (o : Nat) : List (Nat × Nat) := cond (Nat.ble o 8) (cond (Nat.ble o 3) (cond (Nat.ble o 1) (cond (Nat.ble o 0) ([(11, 7)]) ([])) (cond (Nat.ble o 2) ([]) ([(9, 6)]))) (cond (Nat.ble o 5) (cond (Nat.ble o 4) ([]) ([])) (cond (Nat.ble o 6) ([]) (cond (Nat.ble o 7) ([]) ([(7, 3), (16, 2), (30, 0), (37, 1), (56, 4), (72, 5)]))))) (cond (Nat.ble o 12) (cond (Nat.ble o 10) (cond (Nat.ble o 9) ([]) ([])) (cond (Nat.ble o 11) ([]) ([]))) (cond (Nat.ble o 14) (cond (Nat.ble o 13) ([]) ([])) (cond (Nat.ble o 15) ([]) (cond (Nat.ble o 16) ([]) ([(7, 8), (10, 9)])))))
def q_nw (o idx : Nat) : Option Nat := ((q_nws o).find? (fun x => Nat.beq x.1 idx)).map (·.2)
end
section
def q_chk (cb : ByteArray) (o : Option (Instr × Nat)) (pc : Nat) : Bool := match o with | none => true | some v => decide (decode cb pc = .ok v)
theorem q_chk_some {cb : ByteArray} {v : Instr × Nat} {pc : Nat} (h : q_chk cb (some v) pc = true) : decode cb pc = .ok v := of_decide_eq_true h
def q_chy (y : Nat) : Bool := (List.range (q_len y)).all (fun pc => q_chk (q_cb y) (q_pg y pc) pc)
theorem q_dc0 : (List.range' 0 22).all q_chy = true := by decide +kernel
theorem q_dc1 : (List.range' 22 14).all q_chy = true := by decide +kernel
theorem q_dc2 : (List.range' 36 13).all q_chy = true := by decide +kernel
theorem q_dc3 : (List.range' 49 19).all q_chy = true := by decide +kernel
theorem q_dc4 : (List.range' 68 12).all q_chy = true := by decide +kernel
theorem q_dc5 : (List.range' 80 14).all q_chy = true := by decide +kernel
theorem q_dc6 : (List.range' 94 6).all q_chy = true := by decide +kernel
theorem q_dc7 : (List.range' 100 9).all q_chy = true := by decide +kernel
theorem q_dc8 : (List.range' 109 10).all q_chy = true := by decide +kernel
theorem q_dc9 : (List.range' 119 8).all q_chy = true := by decide +kernel
theorem q_dc10 : (List.range' 127 6).all q_chy = true := by decide +kernel
theorem q_dc11 : (List.range' 133 9).all q_chy = true := by decide +kernel
theorem q_dc12 : (List.range' 142 16).all q_chy = true := by decide +kernel
theorem q_dc13 : (List.range' 158 3).all q_chy = true := by decide +kernel
def q_il : Instr → Nat
  | .iload _ => 2 | .lload _ => 2 | .aload _ => 2 | .istore _ => 2 | .lstore _ => 2 | .astore _ => 2 | .bipush _ => 2 | .ldc _ => 2 | .newarray _ => 2
  | .sipush _ => 3 | .getfield _ => 3 | .putfield _ => 3 | .getstatic _ => 3 | .ldc2_w _ => 3 | .iinc _ _ => 3 | .goto _ => 3 | .ifCond _ _ => 3 | .if_icmp _ _ => 3 | .ifnull _ => 3 | .ifnonnull _ => 3 | .new _ => 3 | .anewarray _ => 3 | .invokevirtual _ => 3 | .invokespecial _ => 3 | .invokestatic _ => 3
  | .tableswitch _ _ _ _ => 0 | .lookupswitch _ _ => 0 | _ => 1
def q_ilb (o : Option (Instr × Nat)) : Bool := match o with | none => true | some (i, n) => Nat.beq (q_il i) 0 || Nat.beq (q_il i) n
theorem q_ila : (List.range 162).all (fun y => (List.range (q_len y)).all (fun pc => q_ilb (q_pg y pc))) = true := by decide +kernel
theorem q_dcr {a n y : Nat} (h : (List.range' a n).all q_chy = true) (h1 : a ≤ y) (h2 : y < a + n) : q_chy y = true := List.all_eq_true.mp h y (List.mem_range'_1.mpr ⟨h1, h2⟩)
theorem q_dcy {y : Nat} (h : y < 161) : q_chy y = true := by
  by_cases h0 : y < 22
  · exact q_dcr q_dc0 (by omega) (by omega)
  by_cases h1 : y < 36
  · exact q_dcr q_dc1 (by omega) (by omega)
  by_cases h2 : y < 49
  · exact q_dcr q_dc2 (by omega) (by omega)
  by_cases h3 : y < 68
  · exact q_dcr q_dc3 (by omega) (by omega)
  by_cases h4 : y < 80
  · exact q_dcr q_dc4 (by omega) (by omega)
  by_cases h5 : y < 94
  · exact q_dcr q_dc5 (by omega) (by omega)
  by_cases h6 : y < 100
  · exact q_dcr q_dc6 (by omega) (by omega)
  by_cases h7 : y < 109
  · exact q_dcr q_dc7 (by omega) (by omega)
  by_cases h8 : y < 119
  · exact q_dcr q_dc8 (by omega) (by omega)
  by_cases h9 : y < 127
  · exact q_dcr q_dc9 (by omega) (by omega)
  by_cases h10 : y < 133
  · exact q_dcr q_dc10 (by omega) (by omega)
  by_cases h11 : y < 142
  · exact q_dcr q_dc11 (by omega) (by omega)
  by_cases h12 : y < 158
  · exact q_dcr q_dc12 (by omega) (by omega)
  exact q_dcr q_dc13 (by omega) (by omega)
theorem q_ylt {y pc : Nat} {v : Instr × Nat} (h : q_pg y pc = some v) : y < 162 := by
  refine Nat.lt_of_not_le fun q => ?_
  rw [q_pg, Nat.ble_eq_true_of_le q] at h
  cases h
theorem q_pgu {y pc : Nat} (h : y < 162) : q_pg y pc = cond (Nat.ble (q_len y) pc) none (q_pgt y pc) := by
  unfold q_pg
  cases hb : Nat.ble 162 y with
  | true => exact absurd (Nat.le_of_ble_eq_true hb) (by omega)
  | false => rfl
theorem q_dlt {y pc : Nat} {v : Instr × Nat} (h : q_pg y pc = some v) : pc < q_len y := by
  refine Nat.lt_of_not_le fun q => ?_
  rw [q_pgu (q_ylt h), Nat.ble_eq_true_of_le q] at h
  cases h
theorem q_ilen {y pc n : Nat} {i : Instr} (h : q_pg y pc = some (i, n)) (h0 : ¬ q_il i = 0) : n = q_il i := by
  have h1 := List.all_eq_true.mp (List.all_eq_true.mp q_ila y (List.mem_range.mpr (q_ylt h))) pc (List.mem_range.mpr (q_dlt h))
  rw [h] at h1
  have h2 : (Nat.beq (q_il i) 0 || Nat.beq (q_il i) n) = true := h1
  rw [Bool.or_eq_true] at h2
  rcases h2 with h2 | h2
  · exact absurd (Nat.eq_of_beq_eq_true h2) h0
  · exact (Nat.eq_of_beq_eq_true h2).symm
theorem q_decA {y pc : Nat} {v : Instr × Nat} (hy : y < 161) (h : q_pg y pc = some v) : decode (q_cb y) pc = .ok v := by
  have h3 := List.all_eq_true.mp (q_dcy hy) pc (List.mem_range.mpr (q_dlt h))
  rw [h] at h3
  exact q_chk_some h3
end
section
theorem q_dl0 : (List.range' 0 40).all (fun pc => q_chk cL_law (q_gL_law pc) pc) = true := by decide +kernel
theorem q_dl1 : (List.range' 40 40).all (fun pc => q_chk cL_law (q_gL_law pc) pc) = true := by decide +kernel
theorem q_dl2 : (List.range' 80 40).all (fun pc => q_chk cL_law (q_gL_law pc) pc) = true := by decide +kernel
theorem q_dl3 : (List.range' 120 40).all (fun pc => q_chk cL_law (q_gL_law pc) pc) = true := by decide +kernel
theorem q_dl4 : (List.range' 160 40).all (fun pc => q_chk cL_law (q_gL_law pc) pc) = true := by decide +kernel
theorem q_dl5 : (List.range' 200 40).all (fun pc => q_chk cL_law (q_gL_law pc) pc) = true := by decide +kernel
theorem q_dl6 : (List.range' 240 40).all (fun pc => q_chk cL_law (q_gL_law pc) pc) = true := by decide +kernel
theorem q_dl7 : (List.range' 280 40).all (fun pc => q_chk cL_law (q_gL_law pc) pc) = true := by decide +kernel
theorem q_dl8 : (List.range' 320 40).all (fun pc => q_chk cL_law (q_gL_law pc) pc) = true := by decide +kernel
theorem q_dl9 : (List.range' 360 40).all (fun pc => q_chk cL_law (q_gL_law pc) pc) = true := by decide +kernel
theorem q_dl10 : (List.range' 400 40).all (fun pc => q_chk cL_law (q_gL_law pc) pc) = true := by decide +kernel
theorem q_dl11 : (List.range' 440 40).all (fun pc => q_chk cL_law (q_gL_law pc) pc) = true := by decide +kernel
theorem q_dl12 : (List.range' 480 40).all (fun pc => q_chk cL_law (q_gL_law pc) pc) = true := by decide +kernel
theorem q_dl13 : (List.range' 520 40).all (fun pc => q_chk cL_law (q_gL_law pc) pc) = true := by decide +kernel
theorem q_dl14 : (List.range' 560 40).all (fun pc => q_chk cL_law (q_gL_law pc) pc) = true := by decide +kernel
theorem q_dl15 : (List.range' 600 40).all (fun pc => q_chk cL_law (q_gL_law pc) pc) = true := by decide +kernel
theorem q_dl16 : (List.range' 640 40).all (fun pc => q_chk cL_law (q_gL_law pc) pc) = true := by decide +kernel
theorem q_dl17 : (List.range' 680 40).all (fun pc => q_chk cL_law (q_gL_law pc) pc) = true := by decide +kernel
theorem q_dl18 : (List.range' 720 40).all (fun pc => q_chk cL_law (q_gL_law pc) pc) = true := by decide +kernel
theorem q_dl19 : (List.range' 760 40).all (fun pc => q_chk cL_law (q_gL_law pc) pc) = true := by decide +kernel
theorem q_dl20 : (List.range' 800 40).all (fun pc => q_chk cL_law (q_gL_law pc) pc) = true := by decide +kernel
theorem q_dl21 : (List.range' 840 40).all (fun pc => q_chk cL_law (q_gL_law pc) pc) = true := by decide +kernel
theorem q_dl22 : (List.range' 880 40).all (fun pc => q_chk cL_law (q_gL_law pc) pc) = true := by decide +kernel
theorem q_dl23 : (List.range' 920 40).all (fun pc => q_chk cL_law (q_gL_law pc) pc) = true := by decide +kernel
theorem q_dl24 : (List.range' 960 40).all (fun pc => q_chk cL_law (q_gL_law pc) pc) = true := by decide +kernel
theorem q_dl25 : (List.range' 1000 37).all (fun pc => q_chk cL_law (q_gL_law pc) pc) = true := by decide +kernel
theorem q_dlr {a n pc : Nat} (h : (List.range' a n).all (fun pc => q_chk cL_law (q_gL_law pc) pc) = true) (h1 : a ≤ pc) (h2 : pc < a + n) : q_chk cL_law (q_gL_law pc) pc = true := List.all_eq_true.mp h pc (List.mem_range'_1.mpr ⟨h1, h2⟩)
theorem q_dly {pc : Nat} (h : pc < 1037) : q_chk cL_law (q_gL_law pc) pc = true := by
  by_cases h0 : pc < 40
  · exact q_dlr q_dl0 (by omega) (by omega)
  by_cases h1 : pc < 80
  · exact q_dlr q_dl1 (by omega) (by omega)
  by_cases h2 : pc < 120
  · exact q_dlr q_dl2 (by omega) (by omega)
  by_cases h3 : pc < 160
  · exact q_dlr q_dl3 (by omega) (by omega)
  by_cases h4 : pc < 200
  · exact q_dlr q_dl4 (by omega) (by omega)
  by_cases h5 : pc < 240
  · exact q_dlr q_dl5 (by omega) (by omega)
  by_cases h6 : pc < 280
  · exact q_dlr q_dl6 (by omega) (by omega)
  by_cases h7 : pc < 320
  · exact q_dlr q_dl7 (by omega) (by omega)
  by_cases h8 : pc < 360
  · exact q_dlr q_dl8 (by omega) (by omega)
  by_cases h9 : pc < 400
  · exact q_dlr q_dl9 (by omega) (by omega)
  by_cases h10 : pc < 440
  · exact q_dlr q_dl10 (by omega) (by omega)
  by_cases h11 : pc < 480
  · exact q_dlr q_dl11 (by omega) (by omega)
  by_cases h12 : pc < 520
  · exact q_dlr q_dl12 (by omega) (by omega)
  by_cases h13 : pc < 560
  · exact q_dlr q_dl13 (by omega) (by omega)
  by_cases h14 : pc < 600
  · exact q_dlr q_dl14 (by omega) (by omega)
  by_cases h15 : pc < 640
  · exact q_dlr q_dl15 (by omega) (by omega)
  by_cases h16 : pc < 680
  · exact q_dlr q_dl16 (by omega) (by omega)
  by_cases h17 : pc < 720
  · exact q_dlr q_dl17 (by omega) (by omega)
  by_cases h18 : pc < 760
  · exact q_dlr q_dl18 (by omega) (by omega)
  by_cases h19 : pc < 800
  · exact q_dlr q_dl19 (by omega) (by omega)
  by_cases h20 : pc < 840
  · exact q_dlr q_dl20 (by omega) (by omega)
  by_cases h21 : pc < 880
  · exact q_dlr q_dl21 (by omega) (by omega)
  by_cases h22 : pc < 920
  · exact q_dlr q_dl22 (by omega) (by omega)
  by_cases h23 : pc < 960
  · exact q_dlr q_dl23 (by omega) (by omega)
  by_cases h24 : pc < 1000
  · exact q_dlr q_dl24 (by omega) (by omega)
  exact q_dlr q_dl25 (by omega) (by omega)
theorem q_dec {y pc : Nat} {v : Instr × Nat} (h : q_pg y pc = some v) : decode (q_cb y) pc = .ok v := by
  have hy : y < 162 := q_ylt h
  by_cases hl : y < 161
  · exact q_decA hl h
  · have e : y = 161 := by omega
    subst e
    have h1 : pc < 1037 := q_dlt h
    have h2 := q_dly h1
    rw [q_pgu hy] at h
    cases hb : Nat.ble (q_len 161) pc with
    | true => rw [hb] at h; cases h
    | false =>
      rw [hb] at h
      have h4 : q_gL_law pc = some v := h
      rw [h4] at h2
      have e2 : q_cb 161 = cL_law := rfl
      rw [e2]
      exact q_chk_some h2
end
section
/-! ===== the abstract machine: memory, values, world ===== -/
abbrev qM : Type := (Nat × (Nat → Nat → Option Nat)) × ((Nat → Nat → Int32) × (Nat → Nat → Int64))
def q_n (M : qM) : Nat := M.1.1
def q_r (M : qM) (i k : Nat) : Option Nat := M.1.2 i k
def q_i (M : qM) (i k : Nat) : Int32 := M.2.1 i k
def q_l (M : qM) (i k : Nat) : Int64 := M.2.2 i k
def q_u {α : Type} (f : Nat → Nat → α) (i k : Nat) (x : α) : Nat → Nat → α := fun a b => if a = i ∧ b = k then x else f a b
def q_z {α : Type} (f : Nat → Nat → α) (i : Nat) (x : α) : Nat → Nat → α := fun a b => if a = i then x else f a b
def q_wi (M : qM) (i k : Nat) (x : Int32) : qM := (M.1, (q_u M.2.1 i k x, M.2.2))
def q_wl (M : qM) (i k : Nat) (x : Int64) : qM := (M.1, (M.2.1, q_u M.2.2 i k x))
def q_wr (M : qM) (i k : Nat) (x : Option Nat) : qM := ((M.1.1, q_u M.1.2 i k x), M.2)
/-- one more cell: its row is blank -/
def q_al (M : qM) : qM := ((M.1.1 + 1, q_z M.1.2 M.1.1 none), (q_z M.2.1 M.1.1 0, q_z M.2.2 M.1.1 0))
abbrev qC : Type := Nat × List (Option Value) × List Value × qM
def q_cv (N0 : Nat) (kv : Nat → Value) : Value → Value
  | .ref i => .ref (N0 + i)
  | .float k => kv k.toNat
  | v => v
def q_kd : FieldType → Nat
  | .long => 1
  | .object _ => 2
  | .array _ => 2
  | _ => 0
/-- what a slot of a type holds: abstract, and in the machine -/
def q_av (M : qM) (i : Nat) (ty : FieldType) (k : Nat) : Value := match q_kd ty with
  | 0 => .int (q_i M i k)
  | 1 => .long (q_l M i k)
  | _ => va_rf (q_r M i k)
def q_fv (N0 : Nat) (M : qM) (i : Nat) (ty : FieldType) (k : Nat) : Value := match q_kd ty with
  | 0 => .int (q_i M i k)
  | 1 => .long (q_l M i k)
  | _ => va_rf ((q_r M i k).map (N0 + ·))
theorem q_cv_av (N0 : Nat) (kv : Nat → Value) (M : qM) (i : Nat) (ty : FieldType) (k : Nat) : q_cv N0 kv (q_av M i ty k) = q_fv N0 M i ty k := by
  unfold q_av q_fv
  split
  · rfl
  · rfl
  · cases q_r M i k <;> rfl
/-- a write of one slot: a value of the slot's kind -/
def q_w (M : qM) (i : Nat) (ty : FieldType) (k : Nat) (v : Value) : Option qM := match q_kd ty, v with
  | 0, .int x => some (q_wi M i k x)
  | 1, .long x => some (q_wl M i k x)
  | 2, .ref j => some (q_wr M i k (some j))
  | 2, .null => some (q_wr M i k none)
  | _, _ => none
theorem q_w_n {M M1 : qM} {i k : Nat} {ty : FieldType} {v : Value} (h : q_w M i ty k v = some M1) : q_n M1 = q_n M := by
  unfold q_w at h
  split at h <;> first | (cases h; rfl) | cases h
theorem q_w_other {N0 : Nat} {M M1 : qM} {i k : Nat} {ty : FieldType} {v : Value} (h : q_w M i ty k v = some M1) {j : Nat} (hj : j ≠ i) (ty2 : FieldType) : q_fv N0 M1 j ty2 = q_fv N0 M j ty2 := by
  funext b
  unfold q_w at h
  unfold q_fv
  split at h <;> first | (cases h; done) | (cases h; split <;> simp [q_i, q_l, q_r, q_wi, q_wl, q_wr, q_u, hj])
theorem q_w_self {N0 : Nat} {kv : Nat → Value} {M M1 : qM} {i k : Nat} {ty : FieldType} {v : Value} (h : q_w M i ty k v = some M1) : q_fv N0 M1 i ty k = q_cv N0 kv v := by
  unfold q_w at h
  unfold q_fv
  split at h
  · rename_i hk; cases h; rw [hk]; simp [q_i, q_wi, q_u, q_cv]
  · rename_i hk; cases h; rw [hk]; simp [q_l, q_wl, q_u, q_cv]
  · rename_i hk; cases h; rw [hk]; simp [q_r, q_wr, q_u, q_cv, va_rf]
  · rename_i hk; cases h; rw [hk]; simp [q_r, q_wr, q_u, q_cv, va_rf]
  · cases h
theorem q_w_same {N0 : Nat} {M M1 : qM} {i k : Nat} {ty : FieldType} {v : Value} (h : q_w M i ty k v = some M1) {b : Nat} (hb : b ≠ k) (ty2 : FieldType) : q_fv N0 M1 i ty2 b = q_fv N0 M i ty2 b := by
  unfold q_w at h
  unfold q_fv
  split at h <;> first | (cases h; done) | (cases h; split <;> simp [q_i, q_l, q_r, q_wi, q_wl, q_wr, q_u, hb])
/-- the cell at place i -/
def q_at (D : va_G) (dA : Nat → ClassId) (N0 : Nat) (M : qM) (i : Nat) (H : Heap) : Prop := match q_SH i with
  | some (.inl ci) => t_OB (N0 + i) (D.1 ci) (q_nf ci) (D.2 ci) H (fun k => q_fv N0 M i (q_fty ci k) k)
  | some (.inr x) => H[N0 + i]? = some (arrV (dA x.1) x.2 (q_fv N0 M i (q_ety x.1)))
  | none => False
def q_W (D : va_G) (dA : Nat → ClassId) (N0 : Nat) (M : qM) (H : Heap) : Prop := H.size = N0 + q_n M ∧ ∀ i : Nat, i < q_n M → q_at D dA N0 M i H
theorem q_at_obj {D : va_G} {dA : Nat → ClassId} {N0 : Nat} {M : qM} {i ci : Nat} {H : Heap} (h : q_at D dA N0 M i H) (hs : q_SH i = some (.inl ci)) : t_OB (N0 + i) (D.1 ci) (q_nf ci) (D.2 ci) H (fun k => q_fv N0 M i (q_fty ci k) k) := by
  unfold q_at at h; rw [hs] at h; exact h
theorem q_at_arr {D : va_G} {dA : Nat → ClassId} {N0 : Nat} {M : qM} {i t n : Nat} {H : Heap} (h : q_at D dA N0 M i H) (hs : q_SH i = some (.inr (t, n))) : H[N0 + i]? = some (arrV (dA t) n (q_fv N0 M i (q_ety t))) := by
  unfold q_at at h; rw [hs] at h; exact h
theorem q_at_keep {D : va_G} {dA : Nat → ClassId} {N0 : Nat} {M M1 : qM} {i : Nat} {H H1 : Heap} (h : q_at D dA N0 M i H) (hq : H1[N0 + i]? = H[N0 + i]?) (hf : ∀ ty : FieldType, q_fv N0 M1 i ty = q_fv N0 M i ty) : q_at D dA N0 M1 i H1 := by
  unfold q_at at h ⊢
  split
  · rename_i ci hs
    rw [hs] at h
    have h : t_OB (N0 + i) (D.1 ci) (q_nf ci) (D.2 ci) H (fun k => q_fv N0 M i (q_fty ci k) k) := h
    have e : (fun k => q_fv N0 M1 i (q_fty ci k) k) = (fun k => q_fv N0 M i (q_fty ci k) k) := funext fun k => congrFun (hf _) k
    rw [e]
    exact h.kept hq
  · rename_i x hs
    rw [hs] at h
    have h : H[N0 + i]? = some (arrV (dA x.1) x.2 (q_fv N0 M i (q_ety x.1))) := h
    rw [hq, hf]
    exact h
  · rename_i hs
    rw [hs] at h
    exact h
/-- behind a write of one slot of the cell at i -/
theorem q_W_put {D : va_G} {dA : Nat → ClassId} {N0 : Nat} {M M1 : qM} {i k : Nat} {ty : FieldType} {v : Value} {H H1 : Heap} (hW : q_W D dA N0 M H) (h : q_w M i ty k v = some M1) (z : H1.size = H.size) (oq : ∀ q : Nat, q ≠ N0 + i → H1[q]? = H[q]?) (hi : q_at D dA N0 M1 i H1) : q_W D dA N0 M1 H1 := by
  refine ⟨by rw [z, q_w_n h]; exact hW.1, fun j hj => ?_⟩
  rw [q_w_n h] at hj
  by_cases e : j = i
  · subst e; exact hi
  · exact q_at_keep (hW.2 j hj) (oq _ (by omega)) (fun ty2 => q_w_other h e ty2)
/-- behind one new cell -/
theorem q_W_new {D : va_G} {dA : Nat → ClassId} {N0 : Nat} {M : qM} {H H1 : Heap} (hW : q_W D dA N0 M H) (z : H1.size = H.size + 1) (oq : ∀ q : Nat, q < H.size → H1[q]? = H[q]?) (hi : q_at D dA N0 (q_al M) (q_n M) H1) : q_W D dA N0 (q_al M) H1 := by
  refine ⟨by rw [z, hW.1]; rfl, fun j hj => ?_⟩
  have hj : j < q_n M + 1 := hj
  by_cases e : j = q_n M
  · subst e; exact hi
  · refine q_at_keep (hW.2 j (by omega)) (oq _ (by rw [hW.1]; omega)) (fun ty => ?_)
    have e' : ¬ j = M.1.1 := e
    funext b
    unfold q_fv
    simp [q_i, q_l, q_r, q_al, q_z, e']
theorem q_fv_new (N0 : Nat) (M : qM) (ty : FieldType) (k : Nat) : q_fv N0 (q_al M) (q_n M) ty k = match q_kd ty with | 0 => .int 0 | 1 => .long 0 | _ => .null := by
  unfold q_fv
  split <;> simp [q_i, q_l, q_r, q_al, q_z, q_n, va_rf]
/-- locals: what the listed places hold -/
def q_as (cv : Value → Value) : Nat → List (Option Value) → List (Nat × Value)
  | _, [] => []
  | i, none :: t => q_as cv (i + 1) t
  | i, some v :: t => (i, cv v) :: q_as cv (i + 1) t
theorem q_as_iff (cv : Value → Value) : ∀ (ll : List (Option Value)) (i j : Nat) (w : Value), (j, w) ∈ q_as cv i ll ↔ ∃ v, i ≤ j ∧ ll[j - i]? = some (some v) ∧ w = cv v
  | [], i, j, w => by simp [q_as]
  | o :: t, i, j, w => by
    have ih := q_as_iff cv t (i + 1) j w
    have key : (∃ v, i + 1 ≤ j ∧ t[j - (i + 1)]? = some (some v) ∧ w = cv v) ↔ ∃ v, i < j ∧ (o :: t)[j - i]? = some (some v) ∧ w = cv v := by
      constructor
      · rintro ⟨v, h1, h2, h3⟩
        refine ⟨v, h1, ?_, h3⟩
        rw [show j - i = (j - (i + 1)) + 1 by omega, List.getElem?_cons_succ]; exact h2
      · rintro ⟨v, h1, h2, h3⟩
        refine ⟨v, h1, ?_, h3⟩
        rw [show j - i = (j - (i + 1)) + 1 by omega, List.getElem?_cons_succ] at h2; exact h2
    rw [key] at ih
    cases o with
    | none =>
      show (j, w) ∈ q_as cv (i + 1) t ↔ _
      rw [ih]
      constructor
      · rintro ⟨v, h1, h2⟩; exact ⟨v, by omega, h2⟩
      · rintro ⟨v, h1, h2, h3⟩
        refine ⟨v, ?_, h2, h3⟩
        rcases Nat.lt_or_ge i j with q | q
        · exact q
        · rw [show j - i = 0 by omega] at h2; simp at h2
    | some v0 =>
      show (j, w) ∈ (i, cv v0) :: q_as cv (i + 1) t ↔ _
      rw [List.mem_cons, ih]
      constructor
      · rintro (h | ⟨v, h1, h2⟩)
        · cases h; exact ⟨v0, Nat.le_refl _, by simp, rfl⟩
        · exact ⟨v, by omega, h2⟩
      · rintro ⟨v, h1, h2, h3⟩
        rcases Nat.lt_or_ge i j with q | q
        · exact Or.inr ⟨v, q, h2, h3⟩
        · have e : j = i := by omega
          subst e
          simp at h2
          subst h2
          exact Or.inl (by rw [h3])
def q_L (cv : Value → Value) (nL : Nat) (ls : Array Slot) (ll : List (Option Value)) : Prop := ll.length = nL ∧ lv_has ls nL (q_as cv 0 ll)
theorem q_L_at {cv : Value → Value} {nL : Nat} {ls : Array Slot} {ll : List (Option Value)} (h : q_L cv nL ls ll) {i : Nat} {v : Value} (hi : ll[i]? = some (some v)) : ls[i]? = some (.val (cv v)) :=
  h.2.2.2 (i, cv v) ((q_as_iff cv ll 0 i (cv v)).mpr ⟨v, Nat.zero_le _, by simpa using hi, rfl⟩)
/-- a slot that loses its value when the next one is written -/
def q_k2 : Option Value → Option Value
  | some (.long _) => none
  | some (.double _) => none
  | o => o
def q_s1 : List (Option Value) → Nat → Value → List (Option Value)
  | [], _, _ => []
  | _ :: t, 0, v => some v :: t
  | o :: t, 1, v => q_k2 o :: q_s1 t 0 v
  | o :: t, i + 2, v => o :: q_s1 t (i + 1) v
def q_nx : List (Option Value) → List (Option Value)
  | [] => []
  | _ :: t => none :: t
def q_s2 : List (Option Value) → Nat → Value → List (Option Value)
  | [], _, _ => []
  | _ :: t, 0, v => some v :: q_nx t
  | o :: t, 1, v => q_k2 o :: q_s2 t 0 v
  | o :: t, i + 2, v => o :: q_s2 t (i + 1) v
theorem q_k2_some {o : Option Value} {w : Value} (h : q_k2 o = some w) : o = some w ∧ ¬ w.category = 2 := by
  unfold q_k2 at h
  split at h
  · cases h
  · cases h
  · rename_i h1 h2
    subst h
    refine ⟨rfl, ?_⟩
    cases w <;> simp [Value.category] at h1 h2 ⊢
theorem q_s1_len : ∀ (ll : List (Option Value)) (i : Nat) (v : Value), (q_s1 ll i v).length = ll.length
  | [], _, _ => rfl
  | _ :: t, 0, v => rfl
  | o :: t, 1, v => by show (q_s1 t 0 v).length + 1 = _; rw [q_s1_len t 0 v]; rfl
  | o :: t, i + 2, v => by show (q_s1 t (i + 1) v).length + 1 = _; rw [q_s1_len t (i + 1) v]; rfl
theorem q_s2_len : ∀ (ll : List (Option Value)) (i : Nat) (v : Value), (q_s2 ll i v).length = ll.length
  | [], _, _ => rfl
  | _ :: t, 0, v => by cases t <;> rfl
  | o :: t, 1, v => by show (q_s2 t 0 v).length + 1 = _; rw [q_s2_len t 0 v]; rfl
  | o :: t, i + 2, v => by show (q_s2 t (i + 1) v).length + 1 = _; rw [q_s2_len t (i + 1) v]; rfl
theorem q_s1_get : ∀ (ll : List (Option Value)) (i : Nat) (v : Value) (j : Nat) (w : Value), (q_s1 ll i v)[j]? = some (some w) → (j = i ∧ w = v) ∨ (j ≠ i ∧ ll[j]? = some (some w) ∧ ¬ (j + 1 = i ∧ w.category = 2))
  | [], _, _, j, w, h => by simp [q_s1] at h
  | o :: t, 0, v, 0, w, h => by simp [q_s1] at h; exact Or.inl ⟨rfl, h.symm⟩
  | o :: t, 0, v, j + 1, w, h => by simp [q_s1] at h; exact Or.inr ⟨by omega, by simpa using h, by omega⟩
  | o :: t, 1, v, 0, w, h => by
    simp [q_s1] at h
    obtain ⟨h1, h2⟩ := q_k2_some h
    exact Or.inr ⟨by omega, by simp [h1], fun q => h2 q.2⟩
  | o :: t, 1, v, j + 1, w, h => by
    simp [q_s1] at h
    rcases q_s1_get t 0 v j w h with ⟨h1, h2⟩ | ⟨h1, h2, h3⟩
    · exact Or.inl ⟨by omega, h2⟩
    · exact Or.inr ⟨by omega, by simpa using h2, by omega⟩
  | o :: t, i + 2, v, 0, w, h => by simp [q_s1] at h; exact Or.inr ⟨by omega, by simp [h], by omega⟩
  | o :: t, i + 2, v, j + 1, w, h => by
    simp [q_s1] at h
    rcases q_s1_get t (i + 1) v j w h with ⟨h1, h2⟩ | ⟨h1, h2, h3⟩
    · exact Or.inl ⟨by omega, h2⟩
    · exact Or.inr ⟨by omega, by simpa using h2, fun q => h3 ⟨by omega, q.2⟩⟩
theorem q_s2_get : ∀ (ll : List (Option Value)) (i : Nat) (v : Value) (j : Nat) (w : Value), (q_s2 ll i v)[j]? = some (some w) → (j = i ∧ w = v) ∨ (j ≠ i ∧ j ≠ i + 1 ∧ ll[j]? = some (some w) ∧ ¬ (j + 1 = i ∧ w.category = 2))
  | [], _, _, j, w, h => by simp [q_s2] at h
  | o :: t, 0, v, 0, w, h => by simp [q_s2] at h; exact Or.inl ⟨rfl, h.symm⟩
  | o :: [], 0, v, j + 1, w, h => by simp [q_s2, q_nx] at h
  | o :: o2 :: t, 0, v, 1, w, h => by simp [q_s2, q_nx] at h
  | o :: o2 :: t, 0, v, j + 2, w, h => by simp [q_s2, q_nx] at h; exact Or.inr ⟨by omega, by omega, by simpa using h, by omega⟩
  | o :: t, 1, v, 0, w, h => by
    simp [q_s2] at h
    obtain ⟨h1, h2⟩ := q_k2_some h
    exact Or.inr ⟨by omega, by omega, by simp [h1], fun q => h2 q.2⟩
  | o :: t, 1, v, j + 1, w, h => by
    simp [q_s2] at h
    rcases q_s2_get t 0 v j w h with ⟨h1, h2⟩ | ⟨h1, h2, h3, h4⟩
    · exact Or.inl ⟨by omega, h2⟩
    · exact Or.inr ⟨by omega, by omega, by simpa using h3, by omega⟩
  | o :: t, i + 2, v, 0, w, h => by simp [q_s2] at h; exact Or.inr ⟨by omega, by omega, by simp [h], by omega⟩
  | o :: t, i + 2, v, j + 1, w, h => by
    simp [q_s2] at h
    rcases q_s2_get t (i + 1) v j w h with ⟨h1, h2⟩ | ⟨h1, h2, h3, h4⟩
    · exact Or.inl ⟨by omega, h2⟩
    · exact Or.inr ⟨by omega, by omega, by simpa using h3, fun q => h4 ⟨by omega, q.2⟩⟩
/-- fewer listed values -/
theorem q_has_sub {ls : Array Slot} {nL : Nat} {l l' : List (Nat × Value)} (h : lv_has ls nL l) (hs : ∀ q ∈ l', q ∈ l) : lv_has ls nL l' := ⟨h.1, h.2.1, fun q hq => h.2.2 q (hs q hq)⟩
theorem q_L_s1 {cv : Value → Value} (hcv : ∀ v, (cv v).category = v.category) {nL : Nat} {ls : Array Slot} {ll : List (Option Value)} {i : Nat} {v : Value} (hl : ll.length = nL) (h : lv_has ls nL ((i, cv v) :: (q_as cv 0 ll).filter (fun q => !(q.1 == i) && !(q.1 + 1 == i && q.2.category == 2)))) : q_L cv nL ls (q_s1 ll i v) := by
  refine ⟨by rw [q_s1_len]; exact hl, q_has_sub h ?_⟩
  rintro ⟨j, w⟩ hq
  obtain ⟨u, -, h2, rfl⟩ := (q_as_iff cv _ 0 j w).mp hq
  rw [Nat.sub_zero] at h2
  rcases q_s1_get ll i v j u h2 with ⟨rfl, rfl⟩ | ⟨h3, h4, h5⟩
  · exact List.mem_cons_self
  · refine List.mem_cons_of_mem _ (List.mem_filter.mpr ⟨(q_as_iff cv ll 0 j _).mpr ⟨u, Nat.zero_le _, by simpa using h4, rfl⟩, ?_⟩)
    simp [hcv, h3]
    by_cases q : j + 1 = i
    · exact Or.inr (fun z => h5 ⟨q, z⟩)
    · exact Or.inl q
theorem q_L_s2 {cv : Value → Value} (hcv : ∀ v, (cv v).category = v.category) {nL : Nat} {ls : Array Slot} {ll : List (Option Value)} {i : Nat} {v : Value} (hl : ll.length = nL) (h : lv_has ls nL ((i, cv v) :: (q_as cv 0 ll).filter (fun q => !(q.1 == i) && (!(q.1 == i + 1) && !(q.1 + 1 == i && q.2.category == 2))))) : q_L cv nL ls (q_s2 ll i v) := by
  refine ⟨by rw [q_s2_len]; exact hl, q_has_sub h ?_⟩
  rintro ⟨j, w⟩ hq
  obtain ⟨u, -, h2, rfl⟩ := (q_as_iff cv _ 0 j w).mp hq
  rw [Nat.sub_zero] at h2
  rcases q_s2_get ll i v j u h2 with ⟨rfl, rfl⟩ | ⟨h3, h3', h4, h5⟩
  · exact List.mem_cons_self
  · refine List.mem_cons_of_mem _ (List.mem_filter.mpr ⟨(q_as_iff cv ll 0 j _).mpr ⟨u, Nat.zero_le _, by simpa using h4, rfl⟩, ?_⟩)
    simp [hcv, h3, h3']
    by_cases q : j + 1 = i
    · exact Or.inr (fun z => h5 ⟨q, z⟩)
    · exact Or.inl q
/-- a method's locals as it begins -/
def q_en : List Value → List (Option Value)
  | [] => []
  | .long x :: t => some (.long x) :: none :: q_en t
  | .double x :: t => some (.double x) :: none :: q_en t
  | v :: t => some v :: q_en t
def q_e0 (nL : Nat) (vs : List Value) : List (Option Value) := q_en vs ++ List.replicate (nL - (q_en vs).length) none
end
section
/-! ===== what holds of the machine's tables and constants; the judgement G ===== -/
theorem q_mem (w : Cond) {i : Nat} (h : lw_tbl[i]? = some w) (hg : goodWord w = true) : w ∈ lw_tbl.filter goodWord := List.mem_filter.mpr ⟨List.mem_of_getElem? h, hg⟩
def qTB : List Cond := lw_tbl.filter goodWord
def q_in (w : Cond) : Bool := decide (w ∈ lw_tbl) && goodWord w
theorem q_in_TB {w : Cond} (h : q_in w = true) : w ∈ qTB := by
  simp only [q_in, Bool.and_eq_true, decide_eq_true_eq] at h
  exact List.mem_filter.mpr h
def q_T (ci : Nat) : u_T := [TX0, TX1, TX2, TX3, TX4, TX5, TX6, TX7, TX8, TX9].getD ci TX0
theorem q_clk : ∀ ci, ci < 10 → q_cl[ci]? = some (q_os ci, q_T ci, q_nf ci)
  | 0, _ => rfl | 1, _ => rfl | 2, _ => rfl | 3, _ => rfl | 4, _ => rfl | 5, _ => rfl | 6, _ => rfl | 7, _ => rfl | 8, _ => rfl | 9, _ => rfl
  | n + 10, h => absurd h (by omega)
theorem q_lay0 : (List.range 10).all (fun ci => (u_ws (q_os ci) (q_T ci) (q_nf ci)).all q_in) = true := by decide +kernel
theorem q_lay {ci : Nat} (h : ci < 10) : ∀ w ∈ u_ws (q_os ci) (q_T ci) (q_nf ci), w ∈ qTB := fun w hw => q_in_TB (List.all_eq_true.mp (List.all_eq_true.mp q_lay0 ci (List.mem_range.mpr h)) w hw)
theorem q_fty0 : (List.range 10).all (fun ci => (List.range (q_nf ci)).all (fun k => decide (parseFieldDescriptor (q_T ci k).2.2.1 = some (q_fty ci k)))) = true := by decide +kernel
theorem q_ftyk {ci : Nat} (h : ci < 10) : ∀ k, k < q_nf ci → parseFieldDescriptor (q_T ci k).2.2.1 = some (q_fty ci k) := fun k hk => of_decide_eq_true (List.all_eq_true.mp (List.all_eq_true.mp q_fty0 ci (List.mem_range.mpr h)) k (List.mem_range.mpr hk))
theorem q_nm0 : (List.range 10).all (fun ci => (List.range (q_nf ci)).all (fun a => (List.range (q_nf ci)).all (fun b => decide (a = b) || !decide ((q_T ci a).2.1 = (q_T ci b).2.1)))) = true := by decide +kernel
theorem q_nmk {ci : Nat} (h : ci < 10) : ∀ a, a < q_nf ci → ∀ b, b < q_nf ci → a ≠ b → (q_T ci a).2.1 ≠ (q_T ci b).2.1 := fun a ha b hb hab e => by
  have h1 := List.all_eq_true.mp (List.all_eq_true.mp (List.all_eq_true.mp q_nm0 ci (List.mem_range.mpr h)) a (List.mem_range.mpr ha)) b (List.mem_range.mpr hb)
  simp [hab, e] at h1
/-- field links -/
def q_flb (o : Nat) (x : Nat × Nat × Nat) : Bool := decide (x.2.1 < 10) && decide (x.2.2 < q_nf x.2.1) && q_in (.fieldLink (q_os o) x.1 (q_T x.2.1 x.2.2).1 (q_T x.2.1 x.2.2).2.1 (q_T x.2.1 x.2.2).2.2.1)
theorem q_fl0 : (List.range 18).all (fun o => (q_fls o).all (q_flb o)) = true := by decide +kernel
theorem q_fl1 {o idx ci k : Nat} (ho : o < 18) (h : q_fl o idx = some (ci, k)) : ci < 10 ∧ k < q_nf ci ∧ Cond.fieldLink (q_os o) idx (q_T ci k).1 (q_T ci k).2.1 (q_T ci k).2.2.1 ∈ qTB := by
  unfold q_fl at h
  rw [Option.map_eq_some_iff] at h
  obtain ⟨x, h1, h2⟩ := h
  have hb := List.find?_some h1
  have hm := List.mem_of_find?_eq_some h1
  have h3 := List.all_eq_true.mp (List.all_eq_true.mp q_fl0 o (List.mem_range.mpr ho)) x hm
  obtain ⟨a, b, c⟩ := x
  cases h2
  have e : a = idx := Nat.eq_of_beq_eq_true hb
  subst e
  simp only [q_flb, Bool.and_eq_true, decide_eq_true_eq] at h3
  exact ⟨h3.1.1, h3.1.2, q_in_TB h3.2⟩
theorem q_on0 : (List.range 162).all (fun y => decide (q_on y < 18) && decide ((q_yn y).cls = q_os (q_on y))) = true := by decide +kernel
theorem q_on1 {y : Nat} (h : y < 162) : q_on y < 18 ∧ (q_yn y).cls = q_os (q_on y) := by
  have h1 := List.all_eq_true.mp q_on0 y (List.mem_range.mpr h)
  simpa only [Bool.and_eq_true, decide_eq_true_eq] using h1
/-- constants -/
def q_ctb (o : Nat) (x : Nat × Value) : Bool := match x.2 with
  | .int v => q_in (.constant (q_os o) x.1 v)
  | .long v => q_in (.constantLong (q_os o) x.1 v)
  | _ => false
theorem q_ct0 : (List.range 18).all (fun o => (q_cts o).all (q_ctb o)) = true := by decide +kernel
theorem q_ct1 {o idx : Nat} {v : Value} (ho : o < 18) (h : q_ct o idx = some v) : q_ctb o (idx, v) = true := by
  unfold q_ct at h
  rw [Option.map_eq_some_iff] at h
  obtain ⟨x, h1, h2⟩ := h
  have hb := List.find?_some h1
  have hm := List.mem_of_find?_eq_some h1
  have h3 := List.all_eq_true.mp (List.all_eq_true.mp q_ct0 o (List.mem_range.mpr ho)) x hm
  obtain ⟨a, b⟩ := x
  cases h2
  have e : a = idx := Nat.eq_of_beq_eq_true hb
  subst e
  exact h3
theorem q_cti {o idx : Nat} {v : Int32} (ho : o < 18) (h : q_ct o idx = some (.int v)) : Cond.constant (q_os o) idx v ∈ qTB := by
  have h1 := q_ct1 ho h
  unfold q_ctb at h1
  exact q_in_TB h1
theorem q_ctl {o idx : Nat} {v : Int64} (ho : o < 18) (h : q_ct o idx = some (.long v)) : Cond.constantLong (q_os o) idx v ∈ qTB := by
  have h1 := q_ct1 ho h
  unfold q_ctb at h1
  exact q_in_TB h1
/-- classes to make -/
def q_nwb (o : Nat) (x : Nat × Nat) : Bool := decide (x.2 < 10) && q_in (.classLink (q_os o) x.1 (q_os x.2)) && q_in (.instantiable (q_os x.2) (q_nf x.2)) && q_in (.initialized (q_os x.2))
theorem q_nw0 : (List.range 18).all (fun o => (q_nws o).all (q_nwb o)) = true := by decide +kernel
theorem q_nw1 {o idx ci : Nat} (ho : o < 18) (h : q_nw o idx = some ci) : ci < 10 ∧ Cond.classLink (q_os o) idx (q_os ci) ∈ qTB ∧ Cond.instantiable (q_os ci) (q_nf ci) ∈ qTB ∧ Cond.initialized (q_os ci) ∈ qTB := by
  unfold q_nw at h
  rw [Option.map_eq_some_iff] at h
  obtain ⟨x, h1, h2⟩ := h
  have hb := List.find?_some h1
  have hm := List.mem_of_find?_eq_some h1
  have h3 := List.all_eq_true.mp (List.all_eq_true.mp q_nw0 o (List.mem_range.mpr ho)) x hm
  obtain ⟨a, b⟩ := x
  cases h2
  have e : a = idx := Nat.eq_of_beq_eq_true hb
  subst e
  simp only [q_nwb, Bool.and_eq_true, decide_eq_true_eq] at h3
  exact ⟨h3.1.1.1, q_in_TB h3.1.1.2, q_in_TB h3.1.2, q_in_TB h3.2⟩
/-- calls: kind 0 virtual, 1 static, 2 a constructor, 3 a nest mate's constructor -/
def q_nl : List (String × Nat × MethodName × String) := [(RX8, 9, yX3_init, RX8), (RX3, 11, yX6_init, RX8), (RX0, 17, yX7_init, RX8), (RX8, 58, yX4_init, RX8), (RX8, 78, yX5_init, RX8)]
def q_nwd (x : String × Nat × MethodName × String) : Cond := .methodLinkNest x.1 x.2.1 x.2.2.1 x.2.2.2
def q_cd (y : Nat) : Cond := .code (q_yn y) (q_cb y) (q_ml y) (q_rt y)
def q_inp (w : Cond) (i : Nat) : Bool := decide (lw_tbl[i]? = some w) && goodWord w
theorem q_inp_TB {w : Cond} {i : Nat} (h : q_inp w i = true) : w ∈ qTB := by
  simp only [q_inp, Bool.and_eq_true, decide_eq_true_eq] at h
  exact List.mem_filter.mpr ⟨List.mem_of_getElem? h.1, h.2⟩
def q_mtb (y : Nat) : Bool := q_inp (q_cd y) (q_cpo y) && q_inp (.initialized (q_yn y).cls) (q_ipo y) && !decide ((q_yn y).cls = "java/lang/invoke/MethodHandle") && !decide ((q_yn y).cls = "java/lang/invoke/VarHandle") && decide ((parseMethodDescriptor (q_yn y).desc).map (fun d => d.parameters.length) = some (q_na y)) && plainFor (q_yn y) && decide (q_ml y ≤ 17)
theorem q_mt0_0 : (List.range' 0 20).all q_mtb = true := by decide +kernel
theorem q_mt0_1 : (List.range' 20 20).all q_mtb = true := by decide +kernel
theorem q_mt0_2 : (List.range' 40 20).all q_mtb = true := by decide +kernel
theorem q_mt0_3 : (List.range' 60 20).all q_mtb = true := by decide +kernel
theorem q_mt0_4 : (List.range' 80 20).all q_mtb = true := by decide +kernel
theorem q_mt0_5 : (List.range' 100 20).all q_mtb = true := by decide +kernel
theorem q_mt0_6 : (List.range' 120 20).all q_mtb = true := by decide +kernel
theorem q_mt0_7 : (List.range' 140 20).all q_mtb = true := by decide +kernel
theorem q_mt0_8 : (List.range' 160 1).all q_mtb = true := by decide +kernel
theorem q_mt0 {y : Nat} (h : y < 161) : q_mtb y = true := by
  by_cases h0 : y < 20
  · exact List.all_eq_true.mp q_mt0_0 y (List.mem_range'_1.mpr ⟨by omega, by omega⟩)
  by_cases h1 : y < 40
  · exact List.all_eq_true.mp q_mt0_1 y (List.mem_range'_1.mpr ⟨by omega, by omega⟩)
  by_cases h2 : y < 60
  · exact List.all_eq_true.mp q_mt0_2 y (List.mem_range'_1.mpr ⟨by omega, by omega⟩)
  by_cases h3 : y < 80
  · exact List.all_eq_true.mp q_mt0_3 y (List.mem_range'_1.mpr ⟨by omega, by omega⟩)
  by_cases h4 : y < 100
  · exact List.all_eq_true.mp q_mt0_4 y (List.mem_range'_1.mpr ⟨by omega, by omega⟩)
  by_cases h5 : y < 120
  · exact List.all_eq_true.mp q_mt0_5 y (List.mem_range'_1.mpr ⟨by omega, by omega⟩)
  by_cases h6 : y < 140
  · exact List.all_eq_true.mp q_mt0_6 y (List.mem_range'_1.mpr ⟨by omega, by omega⟩)
  by_cases h7 : y < 160
  · exact List.all_eq_true.mp q_mt0_7 y (List.mem_range'_1.mpr ⟨by omega, by omega⟩)
  exact List.all_eq_true.mp q_mt0_8 y (List.mem_range'_1.mpr ⟨by omega, by omega⟩)
theorem q_mt1 {y : Nat} (h : y < 161) : q_cd y ∈ qTB ∧ Cond.initialized (q_yn y).cls ∈ qTB ∧ ((q_yn y).cls ≠ "java/lang/invoke/MethodHandle" ∧ (q_yn y).cls ≠ "java/lang/invoke/VarHandle" ∧ (parseMethodDescriptor (q_yn y).desc).map (fun d => d.parameters.length) = some (q_na y)) ∧ plainFor (q_yn y) = true ∧ q_ml y ≤ 17 := by
  have h1 := q_mt0 h
  simp only [q_mtb, Bool.and_eq_true, decide_eq_true_eq, Bool.not_eq_true', decide_eq_false_iff_not] at h1
  obtain ⟨⟨⟨⟨⟨⟨h2, h3⟩, h4⟩, h5⟩, h6⟩, h7⟩, h8⟩ := h1
  exact ⟨q_inp_TB h2, q_inp_TB h3, ⟨h4, h5, h6⟩, h7, h8⟩
def q_clb (o : Nat) (x : Nat × Nat × Nat × Nat × Nat × Nat) : Bool := decide (x.2.2.1 < 161) && match x.2.1 with
  | 0 => q_inp (.methodLink (q_os o) x.1 (q_yn x.2.2.1)) x.2.2.2.1 && q_inp (.instanceMethod (q_yn x.2.2.1)) x.2.2.2.2.1 && q_inp (.selects (q_yn x.2.2.1).cls (q_yn x.2.2.1) (q_yn x.2.2.1)) x.2.2.2.2.2
  | 1 => q_inp (.methodLink (q_os o) x.1 (q_yn x.2.2.1)) x.2.2.2.1 && q_inp (.static (q_yn x.2.2.1)) x.2.2.2.2.1
  | 2 => q_inp (.methodLink (q_os o) x.1 (q_yn x.2.2.1)) x.2.2.2.1 && q_inp (.instanceMethod (q_yn x.2.2.1)) x.2.2.2.2.1 && decide ((q_yn x.2.2.1).name = "<init>") && decide (q_rt x.2.2.1 = none)
  | 3 => decide (q_nl[x.2.2.2.1]? = some (q_os o, x.1, q_yn x.2.2.1, RX8)) && q_inp (.instanceMethod (q_yn x.2.2.1)) x.2.2.2.2.1 && decide ((q_yn x.2.2.1).name = "<init>") && decide (q_rt x.2.2.1 = none)
  | _ => false
theorem q_cl0_0 : (q_cls 0).all (q_clb 0) = true := by decide +kernel
theorem q_cl0_1 : (q_cls 1).all (q_clb 1) = true := by decide +kernel
theorem q_cl0_2 : (q_cls 2).all (q_clb 2) = true := by decide +kernel
theorem q_cl0_3 : (q_cls 3).all (q_clb 3) = true := by decide +kernel
theorem q_cl0_4 : (q_cls 4).all (q_clb 4) = true := by decide +kernel
theorem q_cl0_5 : (q_cls 5).all (q_clb 5) = true := by decide +kernel
theorem q_cl0_6 : (q_cls 6).all (q_clb 6) = true := by decide +kernel
theorem q_cl0_7 : (q_cls 7).all (q_clb 7) = true := by decide +kernel
theorem q_cl0_8 : (q_cls 8).all (q_clb 8) = true := by decide +kernel
theorem q_cl0_9 : (q_cls 9).all (q_clb 9) = true := by decide +kernel
theorem q_cl0_10 : (q_cls 10).all (q_clb 10) = true := by decide +kernel
theorem q_cl0_11 : (q_cls 11).all (q_clb 11) = true := by decide +kernel
theorem q_cl0_12 : (q_cls 12).all (q_clb 12) = true := by decide +kernel
theorem q_cl0_13 : (q_cls 13).all (q_clb 13) = true := by decide +kernel
theorem q_cl0_14 : (q_cls 14).all (q_clb 14) = true := by decide +kernel
theorem q_cl0_15 : (q_cls 15).all (q_clb 15) = true := by decide +kernel
theorem q_cl0_16 : (q_cls 16).all (q_clb 16) = true := by decide +kernel
theorem q_cl0_17 : (q_cls 17).all (q_clb 17) = true := by decide +kernel
theorem q_cl0 : ∀ o, o < 18 → (q_cls o).all (q_clb o) = true
  | 0, _ => q_cl0_0
  | 1, _ => q_cl0_1
  | 2, _ => q_cl0_2
  | 3, _ => q_cl0_3
  | 4, _ => q_cl0_4
  | 5, _ => q_cl0_5
  | 6, _ => q_cl0_6
  | 7, _ => q_cl0_7
  | 8, _ => q_cl0_8
  | 9, _ => q_cl0_9
  | 10, _ => q_cl0_10
  | 11, _ => q_cl0_11
  | 12, _ => q_cl0_12
  | 13, _ => q_cl0_13
  | 14, _ => q_cl0_14
  | 15, _ => q_cl0_15
  | 16, _ => q_cl0_16
  | 17, _ => q_cl0_17
  | n + 18, h => absurd h (by omega)
theorem q_cl1 {o idx kd y : Nat} (ho : o < 18) (h : q_ck o idx = some (kd, y)) : ∃ p1 p2 p3, q_clb o (idx, kd, y, p1, p2, p3) = true := by
  unfold q_ck at h
  rw [Option.map_eq_some_iff] at h
  obtain ⟨x, h1, h2⟩ := h
  have hb := List.find?_some h1
  have hm := List.mem_of_find?_eq_some h1
  have h3 := List.all_eq_true.mp (q_cl0 o ho) x hm
  obtain ⟨a, b, c, p1, p2, p3⟩ := x
  cases h2
  have e : a = idx := Nat.eq_of_beq_eq_true hb
  subst e
  exact ⟨p1, p2, p3, h3⟩
theorem q_oi0 : (List.range 10).all (fun o => q_in (.methodLink (q_os o) ([5, 3, 3, 3, 3, 3, 1, 3, 1, 1].getD o 0) objectInit)) = true ∧ q_in (.instanceMethod objectInit) = true ∧ q_in (.code objectInit ⟨#[0xb1]⟩ 1 none) = true := by decide +kernel
theorem q_ac0 : q_in (.arrayClass .int) = true ∧ q_in (.arrayClass .boolean) = true ∧ q_in (.arrayClass .byte) = true ∧ q_in (.arrayClass .long) = true := by decide +kernel
end
section
/-! what the worlds' states know -/
def q_A (N0 : Nat) : Nat → Prop := fun q => N0 ≤ q
def q_tys (dA : Nat → ClassId) : List (ClassId × FieldType) := [(dA 0, q_ety 0), (dA 1, q_ety 1), (dA 2, q_ety 2), (dA 3, q_ety 3), (dA 4, q_ety 4), (dA 5, q_ety 5), (dA 6, q_ety 6)]
theorem q_tysk (dA : Nat → ClassId) : ∀ t, t < 7 → (q_tys dA)[t]? = some (dA t, q_ety t)
  | 0, _ => rfl | 1, _ => rfl | 2, _ => rfl | 3, _ => rfl | 4, _ => rfl | 5, _ => rfl | 6, _ => rfl
  | n + 7, h => absurd h (by omega)
def q_ka : List (Nat × String × Nat × List Int32) := [(0, "UNTOLD", 4, [-4, -4, 0, 0]), (1, "LEAST", 5, [0, 1, 0, 0, 0]), (2, "GREATEST", 5, [9999, 20, 999, 100, 9])]
def q_ks : List (Nat × Nat × String) := [(0, 35, "top"), (1, 37, "hang"), (2, 39, "tool"), (3, 41, "club"), (4, 43, "pound")]
def q_sln : List Nat := [3, 4, 4, 4, 5]
def q_sby : List (List Int32) := [[116, 111, 112], [104, 97, 110, 103], [116, 111, 111, 108], [99, 108, 117, 98], [112, 111, 117, 110, 100]]
def q_KF (kv : Nat → Value) (A : Nat → Prop) (U : State) (H : Heap) : Prop :=
  (∀ x ∈ q_ka, ∃ t : Nat, kv x.1 = .ref t ∧ va_Z "SlateQuarry$LawBook" x.2.1 "[I" (.ref t) A U H ∧ va_T .int t x.2.2.1 (fun j => .int (x.2.2.2.getD j 0)) A U H) ∧
  va_Z "java/lang/String" "COMPACT_STRINGS" "Z" (.int 1) A U H ∧
  va_Z "jdk/internal/util/Preconditions" "SIOOBE_FORMATTER" "Ljava/util/function/BiFunction;" (kv 13) A U H ∧
  ∃ adK adV : Nat → Nat, vk_S 5 q_sln q_sby adK adV A U H ∧ (∀ i, i < 5 → kv (3 + i) = .ref (adK i) ∧ kv (8 + i) = .ref (adV i)) ∧ ∀ x ∈ q_ks, vk_R "SlateQuarry$LawBook" x.2.1 x.2.2 (adK x.1) U
def q_ao : List String := ["SlateQuarry$Wall", "SlateQuarry$Gang", "SlateQuarry$Sheet"]
def q_F (D : va_G) (dA : Nat → ClassId) (kv : Nat → Value) (N0 : Nat) (U : State) : Prop :=
  va_K D q_cl (q_tys dA) U ∧ (∀ x ∈ q_nl, va_Nw (q_nwd x) U) ∧ (∀ C ∈ q_ao, va_AO C U) ∧ (∀ k, kv k = .null ∨ ∃ a, kv k = .ref a) ∧ q_KF kv (q_A N0) U U.heap
theorem q_KF_to {kv : Nat → Value} {A : Nat → Prop} {s U : State} {H H1 : Heap} (hvm : s.vm.Alike U.vm) (hR : ∀ (x : Nat × Nat × String) (a : Nat), vk_R "SlateQuarry$LawBook" x.2.1 x.2.2 a s → vk_R "SlateQuarry$LawBook" x.2.1 x.2.2 a U) (hq : ∀ a : Nat, a < H.size → ¬ A a → H1[a]? = H[a]?) (h : q_KF kv A s H) : q_KF kv A U H1 := by
  obtain ⟨h1, h2, h3, adK, adV, h4, h5, h6⟩ := h
  refine ⟨fun x hx => ?_, (h2.moved hvm).kept hq, (h3.moved hvm).kept hq, adK, adV, (h4.moved hvm).kept hq, h5, fun x hx => hR x _ (h6 x hx)⟩
  obtain ⟨t, g1, g2, g3⟩ := h1 x hx
  exact ⟨t, g1, (g2.moved hvm).kept hq, (g3.moved hvm).kept hq⟩
theorem q_F_same {D : va_G} {dA : Nat → ClassId} {kv : Nat → Value} {N0 : Nat} {s U : State} (hv : U.vm = s.vm) (hh : U.heap = s.heap) (h : q_F D dA kv N0 s) : q_F D dA kv N0 U := by
  obtain ⟨h1, h2, h3, h4, h5⟩ := h
  have hvm : s.vm.Alike U.vm := by rw [hv]; exact Vm.Alike.refl _
  refine ⟨h1.moved hvm, fun x hx => (h2 x hx).same rfl hv.symm, fun C hC => (h3 C hC).moved hvm, h4, ?_⟩
  rw [hh]
  exact q_KF_to hvm (fun x a h => h.same hv) (fun _ _ _ => rfl) h5
theorem q_F_warm {D : va_G} {dA : Nat → ClassId} {kv : Nat → Value} {N0 : Nat} {s U : State} (hW : s.WarmedH U.vm) (hq : ∀ a : Nat, a < s.heap.size → ¬ q_A N0 a → U.heap[a]? = s.heap[a]?) (h : q_F D dA kv N0 s) : q_F D dA kv N0 U := by
  obtain ⟨h1, h2, h3, h4, h5⟩ := h
  have hvm : s.vm.Alike U.vm := hW.alike
  exact ⟨h1.moved hvm, fun x hx => va_Nw.warmM hW (h2 x hx), fun C hC => (h3 C hC).moved hvm, h4, q_KF_to hvm (fun x a h => h.warm hW) hq h5⟩
theorem q_cv_cat {N0 : Nat} {kv : Nat → Value} (h : ∀ k, kv k = .null ∨ ∃ a, kv k = .ref a) (v : Value) : (q_cv N0 kv v).category = v.category := by
  cases v with
  | float k =>
    show (kv k.toNat).category = 1
    rcases h k.toNat with h | ⟨a, h⟩ <;> rw [h] <;> rfl
  | _ => rfl
/-! rooms -/
def q_sz (i : Nat) : Nat := match q_SH i with
  | some (.inl ci) => q_nf ci
  | some (.inr x) => x.2
  | none => 0
def q_sl : Nat → Nat
  | 0 => 0
  | n + 1 => q_sl n + q_sz n
theorem q_sl_mono {a b : Nat} (h : a ≤ b) : q_sl a ≤ q_sl b := by
  induction b with
  | zero => rw [show a = 0 by omega]; exact Nat.le_refl _
  | succ b ih =>
    by_cases e : a = b + 1
    · rw [e]; exact Nat.le_refl _
    · exact Nat.le_trans (ih (by omega)) (Nat.le_add_right _ _)
def q_Rm (d c s : Nat) : Room := { frames := d, cells := c, slots := s, locals := 36 * d }
def q_ws (y : Nat) : List Cond := q_cd y :: qTB
theorem q_goodTB {w : Cond} (h : w ∈ qTB) : w ∈ lw_tbl ∧ ((w.onTables && w.keeps) = true ∨ ∃ ty, w = .arrayClass ty) := ⟨(List.mem_filter.mp h).1, good_of_word (List.mem_filter.mp h).2⟩
/-- the words of a method, among any that hold the tables' -/
theorem q_good {big : List Cond} (hb : ∀ w ∈ qTB, w ∈ big) {y : Nat} (hy : y < 161) : GoodIn big (q_ws y) := by
  intro w hw
  have h : w ∈ qTB := by
    rcases List.mem_cons.mp hw with h | h
    · rw [h]; exact (q_mt1 hy).1
    · exact h
  exact ⟨hb w h, (q_goodTB h).2⟩
/-! the judgement: from a configuration on, the method comes to its end with r and M' -/
def q_ri : Option FieldType → Instr
  | none => .return_
  | some .long => .lreturn
  | some (.object _) => .areturn
  | some (.array _) => .areturn
  | some _ => .ireturn
def q_X (D : va_G) (dA : Nat → ClassId) (kv : Nat → Value) (N0 y : Nat) (p : Program) (s : State) (m : MethodId) (args : Array Value) (meth : Method) (co : Code) : Prop :=
  p.tables.exec = Jvm.exec ∧ co.code = q_cb y ∧ co.maxLocals = q_ml y ∧ s.vm.findClass (q_os (q_on y)) = some m.cls ∧ (∀ w ∈ qTB, w.before args s = true) ∧ meth.name = (q_yn y).name ∧ q_F D dA kv N0 s ∧ N0 ≤ s.heap.size
def q_HR (r : Option Value) (M' : qM) (l : Launch) (D : va_G) (dA : Nat → ClassId) (kv : Nat → Value) (N0 n0 y : Nat) (p : Program) (e : Env) (s : State) (m : MethodId) (args : Array Value) (below : List Frame) (meth : Method) (co : Code) (R : Room) (Q : State → Prop) : Prop :=
  ∀ (pc : Nat) (H : Heap) (locs : List Loc) (ls : Array Slot), decode (q_cb y) pc = .ok (q_ri (q_rt y), 1) → q_W D dA N0 M' H → va_S (q_A N0) s.heap H locs → W p l e R s m args below meth co H locs (q_n M' - n0) (q_sl (q_n M') - q_sl n0) Q (F0 m pc ls (r.map (q_cv N0 kv)).toList)
def q_B (d y : Nat) (r : Option Value) (M' : qM) (l : Launch) (D : va_G) (dA : Nat → ClassId) (kv : Nat → Value) (N0 n0 : Nat) (p : Program) (e : Env) (s : State) (m : MethodId) (args : Array Value) (below : List Frame) (meth : Method) (co : Code) (R : Room) (Q : State → Prop) : Prop :=
  q_X D dA kv N0 y p s m args meth co ∧ (d ≤ R.frames ∧ 36 * d ≤ R.locals) ∧ (q_n M' - n0 ≤ R.cells ∧ q_sl (q_n M') - q_sl n0 ≤ R.slots) ∧ q_HR r M' l D dA kv N0 n0 y p e s m args below meth co R Q
def G (d y : Nat) (c : qC) (r : Option Value) (M' : qM) : Prop :=
  ∀ (l : Launch) (D : va_G) (dA : Nat → ClassId) (kv : Nat → Value) (N0 n0 : Nat) (p : Program) (e : Env) (s : State) (m : MethodId) (args : Array Value) (below : List Frame) (meth : Method) (co : Code) (R : Room) (Q : State → Prop),
    q_B d y r M' l D dA kv N0 n0 p e s m args below meth co R Q → n0 ≤ q_n c.2.2.2 →
    ∀ (H : Heap) (locs : List Loc) (ls : Array Slot), q_L (q_cv N0 kv) (q_ml y) ls c.2.1 → q_W D dA N0 c.2.2.2 H → va_S (q_A N0) s.heap H locs →
      W p l e R s m args below meth co H locs (q_n c.2.2.2 - n0) (q_sl (q_n c.2.2.2) - q_sl n0) Q (F0 m c.1 ls (c.2.2.1.map (q_cv N0 kv)))
/-- a method's contract -/
def q_Q (D : va_G) (dA : Nat → ClassId) (kv : Nat → Value) (N0 : Nat) (r : Option Value) (M' : qM) : Array Value → State → Outcome → State → Prop := fun _ st o t => o = .returned (r.map (q_cv N0 kv)) ∧ q_W D dA N0 M' t.heap ∧ va_F (q_A N0) st t
def q_P (D : va_G) (dA : Nat → ClassId) (kv : Nat → Value) (N0 : Nat) (M : qM) (U : State) : Prop := q_F D dA kv N0 U ∧ q_W D dA N0 M U.heap
def GM (d y : Nat) (av : List Value) (M : qM) (r : Option Value) (M' : qM) : Prop :=
  y < 161 ∧ q_n M ≤ q_n M' ∧ ∀ (l : Launch) (D : va_G) (dA : Nat → ClassId) (kv : Nat → Value) (N0 : Nat), Met l (q_yn y) (q_ws y) (q_Rm d (q_n M' - q_n M) (q_sl (q_n M') - q_sl (q_n M))) (va_Pc (av.map (q_cv N0 kv)) (q_P D dA kv N0 M)) (q_Q D dA kv N0 r M') (q_n M' - q_n M) (q_sl (q_n M') - q_sl (q_n M)) (q_A N0)
end
section
/-! ===== rules of the judgement G, an instruction each ===== -/
theorem G_same {d y pc pc2 : Nat} {ll ll2 : List (Option Value)} {st st2 : List Value} {M : qM} {r : Option Value} {M' : qM} (g : G d y (pc2, ll2, st2, M) r M')
    (h : ∀ (l : Launch) (D : va_G) (dA : Nat → ClassId) (kv : Nat → Value) (N0 : Nat) (p : Program) (e : Env) (s : State) (m : MethodId) (args : Array Value) (below : List Frame) (meth : Method) (co : Code) (R : Room) (Q : State → Prop), q_X D dA kv N0 y p s m args meth co → (d ≤ R.frames ∧ 36 * d ≤ R.locals) → ∀ (H : Heap) (locs : List Loc) (ls : Array Slot) (cells slots : Nat), q_L (q_cv N0 kv) (q_ml y) ls ll → q_W D dA N0 M H → va_S (q_A N0) s.heap H locs →
      (∀ ls2 : Array Slot, q_L (q_cv N0 kv) (q_ml y) ls2 ll2 → W p l e R s m args below meth co H locs cells slots Q (F0 m pc2 ls2 (st2.map (q_cv N0 kv)))) → W p l e R s m args below meth co H locs cells slots Q (F0 m pc ls (st.map (q_cv N0 kv)))) : G d y (pc, ll, st, M) r M' := by
  intro l D dA kv N0 n0 p e s m args below meth co R Q hB hn H locs ls hL hW hS
  exact h l D dA kv N0 p e s m args below meth co R Q hB.1 hB.2.1 H locs ls _ _ hL hW hS (fun ls2 hL2 => g l D dA kv N0 n0 p e s m args below meth co R Q hB hn H locs ls2 hL2 hW hS)
theorem G_iadd {d y pc : Nat} {ll : List (Option Value)} {st : List Value} {M : qM} {r : Option Value} {M' : qM} {a b : Int32} (hp : q_pg y pc = some (.iadd, 1)) (g : G d y (pc + 1, ll, .int (a + b) :: st, M) r M') : G d y (pc, ll, .int b :: .int a :: st, M) r M' :=
  G_same g fun l D dA kv N0 p e s m args below meth co R Q hX hR H locs ls cells slots hL hW hS k => lv_iadd hX.1 hX.2.1 (q_dec hp) (k ls hL)
theorem G_isub {d y pc : Nat} {ll : List (Option Value)} {st : List Value} {M : qM} {r : Option Value} {M' : qM} {a b : Int32} (hp : q_pg y pc = some (.isub, 1)) (g : G d y (pc + 1, ll, .int (a - b) :: st, M) r M') : G d y (pc, ll, .int b :: .int a :: st, M) r M' :=
  G_same g fun l D dA kv N0 p e s m args below meth co R Q hX hR H locs ls cells slots hL hW hS k => lv_isub hX.1 hX.2.1 (q_dec hp) (k ls hL)
theorem G_imul {d y pc : Nat} {ll : List (Option Value)} {st : List Value} {M : qM} {r : Option Value} {M' : qM} {a b : Int32} (hp : q_pg y pc = some (.imul, 1)) (g : G d y (pc + 1, ll, .int (a * b) :: st, M) r M') : G d y (pc, ll, .int b :: .int a :: st, M) r M' :=
  G_same g fun l D dA kv N0 p e s m args below meth co R Q hX hR H locs ls cells slots hL hW hS k => lv_imul hX.1 hX.2.1 (q_dec hp) (k ls hL)
theorem G_iand {d y pc : Nat} {ll : List (Option Value)} {st : List Value} {M : qM} {r : Option Value} {M' : qM} {a b : Int32} (hp : q_pg y pc = some (.iand, 1)) (g : G d y (pc + 1, ll, .int (a &&& b) :: st, M) r M') : G d y (pc, ll, .int b :: .int a :: st, M) r M' :=
  G_same g fun l D dA kv N0 p e s m args below meth co R Q hX hR H locs ls cells slots hL hW hS k => lv_iand hX.1 hX.2.1 (q_dec hp) (k ls hL)
theorem G_ior {d y pc : Nat} {ll : List (Option Value)} {st : List Value} {M : qM} {r : Option Value} {M' : qM} {a b : Int32} (hp : q_pg y pc = some (.ior, 1)) (g : G d y (pc + 1, ll, .int (a ||| b) :: st, M) r M') : G d y (pc, ll, .int b :: .int a :: st, M) r M' :=
  G_same g fun l D dA kv N0 p e s m args below meth co R Q hX hR H locs ls cells slots hL hW hS k => lv_ior hX.1 hX.2.1 (q_dec hp) (k ls hL)
theorem G_ishl {d y pc : Nat} {ll : List (Option Value)} {st : List Value} {M : qM} {r : Option Value} {M' : qM} {a b : Int32} (hp : q_pg y pc = some (.ishl, 1)) (g : G d y (pc + 1, ll, .int (a <<< (b &&& 31)) :: st, M) r M') : G d y (pc, ll, .int b :: .int a :: st, M) r M' :=
  G_same g fun l D dA kv N0 p e s m args below meth co R Q hX hR H locs ls cells slots hL hW hS k => lv_ishl hX.1 hX.2.1 (q_dec hp) (k ls hL)
theorem G_ishr {d y pc : Nat} {ll : List (Option Value)} {st : List Value} {M : qM} {r : Option Value} {M' : qM} {a b : Int32} (hp : q_pg y pc = some (.ishr, 1)) (g : G d y (pc + 1, ll, .int (a >>> (b &&& 31)) :: st, M) r M') : G d y (pc, ll, .int b :: .int a :: st, M) r M' :=
  G_same g fun l D dA kv N0 p e s m args below meth co R Q hX hR H locs ls cells slots hL hW hS k => lv_ishr hX.1 hX.2.1 (q_dec hp) (k ls hL)
theorem G_ladd {d y pc : Nat} {ll : List (Option Value)} {st : List Value} {M : qM} {r : Option Value} {M' : qM} {a b : Int64} (hp : q_pg y pc = some (.ladd, 1)) (g : G d y (pc + 1, ll, .long (a + b) :: st, M) r M') : G d y (pc, ll, .long b :: .long a :: st, M) r M' :=
  G_same g fun l D dA kv N0 p e s m args below meth co R Q hX hR H locs ls cells slots hL hW hS k => lv_ladd hX.1 hX.2.1 (q_dec hp) (k ls hL)
theorem G_lsub {d y pc : Nat} {ll : List (Option Value)} {st : List Value} {M : qM} {r : Option Value} {M' : qM} {a b : Int64} (hp : q_pg y pc = some (.lsub, 1)) (g : G d y (pc + 1, ll, .long (a - b) :: st, M) r M') : G d y (pc, ll, .long b :: .long a :: st, M) r M' :=
  G_same g fun l D dA kv N0 p e s m args below meth co R Q hX hR H locs ls cells slots hL hW hS k => lv_lsub hX.1 hX.2.1 (q_dec hp) (k ls hL)
theorem G_lmul {d y pc : Nat} {ll : List (Option Value)} {st : List Value} {M : qM} {r : Option Value} {M' : qM} {a b : Int64} (hp : q_pg y pc = some (.lmul, 1)) (g : G d y (pc + 1, ll, .long (a * b) :: st, M) r M') : G d y (pc, ll, .long b :: .long a :: st, M) r M' :=
  G_same g fun l D dA kv N0 p e s m args below meth co R Q hX hR H locs ls cells slots hL hW hS k => lv_lmul hX.1 hX.2.1 (q_dec hp) (k ls hL)
theorem G_land {d y pc : Nat} {ll : List (Option Value)} {st : List Value} {M : qM} {r : Option Value} {M' : qM} {a b : Int64} (hp : q_pg y pc = some (.land, 1)) (g : G d y (pc + 1, ll, .long (a &&& b) :: st, M) r M') : G d y (pc, ll, .long b :: .long a :: st, M) r M' :=
  G_same g fun l D dA kv N0 p e s m args below meth co R Q hX hR H locs ls cells slots hL hW hS k => lv_land hX.1 hX.2.1 (q_dec hp) (k ls hL)
theorem G_lor {d y pc : Nat} {ll : List (Option Value)} {st : List Value} {M : qM} {r : Option Value} {M' : qM} {a b : Int64} (hp : q_pg y pc = some (.lor, 1)) (g : G d y (pc + 1, ll, .long (a ||| b) :: st, M) r M') : G d y (pc, ll, .long b :: .long a :: st, M) r M' :=
  G_same g fun l D dA kv N0 p e s m args below meth co R Q hX hR H locs ls cells slots hL hW hS k => lv_lor hX.1 hX.2.1 (q_dec hp) (k ls hL)
theorem G_lxor {d y pc : Nat} {ll : List (Option Value)} {st : List Value} {M : qM} {r : Option Value} {M' : qM} {a b : Int64} (hp : q_pg y pc = some (.lxor, 1)) (g : G d y (pc + 1, ll, .long (a ^^^ b) :: st, M) r M') : G d y (pc, ll, .long b :: .long a :: st, M) r M' :=
  G_same g fun l D dA kv N0 p e s m args below meth co R Q hX hR H locs ls cells slots hL hW hS k => lv_lxor hX.1 hX.2.1 (q_dec hp) (k ls hL)
theorem G_lshl {d y pc : Nat} {ll : List (Option Value)} {st : List Value} {M : qM} {r : Option Value} {M' : qM} {a : Int64} {b : Int32} (hp : q_pg y pc = some (.lshl, 1)) (g : G d y (pc + 1, ll, .long (a <<< (b.toInt64 &&& 63)) :: st, M) r M') : G d y (pc, ll, .int b :: .long a :: st, M) r M' :=
  G_same g fun l D dA kv N0 p e s m args below meth co R Q hX hR H locs ls cells slots hL hW hS k => lv_lshl hX.1 hX.2.1 (q_dec hp) rfl (k ls hL)
theorem G_lshr {d y pc : Nat} {ll : List (Option Value)} {st : List Value} {M : qM} {r : Option Value} {M' : qM} {a : Int64} {b : Int32} (hp : q_pg y pc = some (.lshr, 1)) (g : G d y (pc + 1, ll, .long (a >>> (b.toInt64 &&& 63)) :: st, M) r M') : G d y (pc, ll, .int b :: .long a :: st, M) r M' :=
  G_same g fun l D dA kv N0 p e s m args below meth co R Q hX hR H locs ls cells slots hL hW hS k => lv_lshr hX.1 hX.2.1 (q_dec hp) rfl (k ls hL)
theorem G_lushr {d y pc : Nat} {ll : List (Option Value)} {st : List Value} {M : qM} {r : Option Value} {M' : qM} {a : Int64} {b : Int32} (hp : q_pg y pc = some (.lushr, 1)) (g : G d y (pc + 1, ll, .long ((a.toUInt64 >>> (b.toInt64.toUInt64 &&& Int64.toUInt64 63)).toInt64) :: st, M) r M') : G d y (pc, ll, .int b :: .long a :: st, M) r M' :=
  G_same g fun l D dA kv N0 p e s m args below meth co R Q hX hR H locs ls cells slots hL hW hS k => lv_lushr hX.1 hX.2.1 (q_dec hp) rfl (k ls hL)
theorem G_i2l {d y pc : Nat} {ll : List (Option Value)} {st : List Value} {M : qM} {r : Option Value} {M' : qM} {a : Int32} (hp : q_pg y pc = some (.i2l, 1)) (g : G d y (pc + 1, ll, .long a.toInt64 :: st, M) r M') : G d y (pc, ll, .int a :: st, M) r M' :=
  G_same g fun l D dA kv N0 p e s m args below meth co R Q hX hR H locs ls cells slots hL hW hS k => lv_i2l hX.1 hX.2.1 (q_dec hp) rfl (k ls hL)
theorem G_l2i {d y pc : Nat} {ll : List (Option Value)} {st : List Value} {M : qM} {r : Option Value} {M' : qM} {a : Int64} (hp : q_pg y pc = some (.l2i, 1)) (g : G d y (pc + 1, ll, .int a.toInt32 :: st, M) r M') : G d y (pc, ll, .long a :: st, M) r M' :=
  G_same g fun l D dA kv N0 p e s m args below meth co R Q hX hR H locs ls cells slots hL hW hS k => lv_l2i hX.1 hX.2.1 (q_dec hp) rfl (k ls hL)
theorem G_i2b {d y pc : Nat} {ll : List (Option Value)} {st : List Value} {M : qM} {r : Option Value} {M' : qM} {a : Int32} (hp : q_pg y pc = some (.i2b, 1)) (g : G d y (pc + 1, ll, .int a.toInt8.toInt32 :: st, M) r M') : G d y (pc, ll, .int a :: st, M) r M' :=
  G_same g fun l D dA kv N0 p e s m args below meth co R Q hX hR H locs ls cells slots hL hW hS k => lv_i2b hX.1 hX.2.1 (q_dec hp) rfl (k ls hL)
theorem G_i2s {d y pc : Nat} {ll : List (Option Value)} {st : List Value} {M : qM} {r : Option Value} {M' : qM} {a : Int32} (hp : q_pg y pc = some (.i2s, 1)) (g : G d y (pc + 1, ll, .int a.toInt16.toInt32 :: st, M) r M') : G d y (pc, ll, .int a :: st, M) r M' :=
  G_same g fun l D dA kv N0 p e s m args below meth co R Q hX hR H locs ls cells slots hL hW hS k => lv_i2s hX.1 hX.2.1 (q_dec hp) rfl (k ls hL)
theorem G_i2c {d y pc : Nat} {ll : List (Option Value)} {st : List Value} {M : qM} {r : Option Value} {M' : qM} {a : Int32} (hp : q_pg y pc = some (.i2c, 1)) (g : G d y (pc + 1, ll, .int (a.toUInt32 % 65536).toInt32 :: st, M) r M') : G d y (pc, ll, .int a :: st, M) r M' :=
  G_same g fun l D dA kv N0 p e s m args below meth co R Q hX hR H locs ls cells slots hL hW hS k => lv_i2c hX.1 hX.2.1 (q_dec hp) rfl (k ls hL)
theorem G_lcmp {d y pc : Nat} {ll : List (Option Value)} {st : List Value} {M : qM} {r : Option Value} {M' : qM} {a b : Int64} (hp : q_pg y pc = some (.lcmp, 1)) (g : G d y (pc + 1, ll, .int (lg_cmp a b) :: st, M) r M') : G d y (pc, ll, .long b :: .long a :: st, M) r M' :=
  G_same g fun l D dA kv N0 p e s m args below meth co R Q hX hR H locs ls cells slots hL hW hS k => W.lcmp hX.1 hX.2.1 (q_dec hp) (k ls hL)
theorem G_iconst {d y pc : Nat} {ll : List (Option Value)} {st : List Value} {M : qM} {r : Option Value} {M' : qM} {n : Int} (hp : q_pg y pc = some (.iconst n, 1)) (g : G d y (pc + 1, ll, .int (Int32.ofInt n) :: st, M) r M') : G d y (pc, ll, st, M) r M' :=
  G_same g fun l D dA kv N0 p e s m args below meth co R Q hX hR H locs ls cells slots hL hW hS k => lv_iconst hX.1 hX.2.1 (q_dec hp) rfl (k ls hL)
theorem G_bipush {d y pc : Nat} {ll : List (Option Value)} {st : List Value} {M : qM} {r : Option Value} {M' : qM} {n : Int} (hp : q_pg y pc = some (.bipush n, 2)) (g : G d y (pc + 2, ll, .int (Int8.ofInt n).toInt32 :: st, M) r M') : G d y (pc, ll, st, M) r M' :=
  G_same g fun l D dA kv N0 p e s m args below meth co R Q hX hR H locs ls cells slots hL hW hS k => lv_bipush hX.1 hX.2.1 (q_dec hp) rfl (k ls hL)
theorem G_sipush {d y pc : Nat} {ll : List (Option Value)} {st : List Value} {M : qM} {r : Option Value} {M' : qM} {n : Int} (hp : q_pg y pc = some (.sipush n, 3)) (g : G d y (pc + 3, ll, .int (Int16.ofInt n).toInt32 :: st, M) r M') : G d y (pc, ll, st, M) r M' :=
  G_same g fun l D dA kv N0 p e s m args below meth co R Q hX hR H locs ls cells slots hL hW hS k => lv_sipush hX.1 hX.2.1 (q_dec hp) rfl (k ls hL)
theorem G_lconst {d y pc : Nat} {ll : List (Option Value)} {st : List Value} {M : qM} {r : Option Value} {M' : qM} {n : Fin 2} (hp : q_pg y pc = some (.lconst n, 1)) (g : G d y (pc + 1, ll, .long (Int64.ofNat (n : Nat)) :: st, M) r M') : G d y (pc, ll, st, M) r M' :=
  G_same g fun l D dA kv N0 p e s m args below meth co R Q hX hR H locs ls cells slots hL hW hS k => lv_lconst hX.1 hX.2.1 (q_dec hp) rfl (k ls hL)
theorem G_null {d y pc : Nat} {ll : List (Option Value)} {st : List Value} {M : qM} {r : Option Value} {M' : qM}  (hp : q_pg y pc = some (.aconst_null, 1)) (g : G d y (pc + 1, ll, .null :: st, M) r M') : G d y (pc, ll, st, M) r M' :=
  G_same g fun l D dA kv N0 p e s m args below meth co R Q hX hR H locs ls cells slots hL hW hS k => lv_null hX.1 hX.2.1 (q_dec hp) (k ls hL)
theorem G_dup {d y pc : Nat} {ll : List (Option Value)} {st : List Value} {M : qM} {r : Option Value} {M' : qM} {a : Value} (hp : q_pg y pc = some (.dup, 1)) (hc : a.category = 1) (g : G d y (pc + 1, ll, a :: a :: st, M) r M') : G d y (pc, ll, a :: st, M) r M' :=
  G_same g fun l D dA kv N0 p e s m args below meth co R Q hX hR H locs ls cells slots hL hW hS k => lv_dup hX.1 hX.2.1 (q_dec hp) (by rw [q_cv_cat hX.2.2.2.2.2.2.1.2.2.2.1]; exact hc) (k ls hL)
theorem G_pop {d y pc : Nat} {ll : List (Option Value)} {st : List Value} {M : qM} {r : Option Value} {M' : qM} {a : Value} (hp : q_pg y pc = some (.pop, 1)) (hc : a.category = 1) (g : G d y (pc + 1, ll, st, M) r M') : G d y (pc, ll, a :: st, M) r M' :=
  G_same g fun l D dA kv N0 p e s m args below meth co R Q hX hR H locs ls cells slots hL hW hS k => lv_pop hX.1 hX.2.1 (q_dec hp) (by rw [q_cv_cat hX.2.2.2.2.2.2.1.2.2.2.1]; exact hc) (k ls hL)
theorem G_dup2 {d y pc : Nat} {ll : List (Option Value)} {st : List Value} {M : qM} {r : Option Value} {M' : qM} {a b : Value} (hp : q_pg y pc = some (.dup2, 1)) (hc : a.category = 1) (hc2 : b.category = 1) (g : G d y (pc + 1, ll, a :: b :: a :: b :: st, M) r M') : G d y (pc, ll, a :: b :: st, M) r M' :=
  G_same g fun l D dA kv N0 p e s m args below meth co R Q hX hR H locs ls cells slots hL hW hS k => lv_dup2_11 hX.1 hX.2.1 (q_dec hp) (by rw [q_cv_cat hX.2.2.2.2.2.2.1.2.2.2.1]; exact hc) (by rw [q_cv_cat hX.2.2.2.2.2.2.1.2.2.2.1]; exact hc2) (k ls hL)
theorem G_iload {d y pc : Nat} {ll : List (Option Value)} {st : List Value} {M : qM} {r : Option Value} {M' : qM} {i : Nat} {x : Int32} (hp : q_pg y pc = some (.iload i, 2)) (hl : ll[i]? = some (some (.int x))) (g : G d y (pc + 2, ll, .int x :: st, M) r M') : G d y (pc, ll, st, M) r M' :=
  G_same g fun l D dA kv N0 p e s m args below meth co R Q hX hR H locs ls cells slots hL hW hS k => lv_iload hX.1 hX.2.1 (q_dec hp) (q_L_at hL hl) (k ls hL)
theorem G_iload_n {d y pc : Nat} {ll : List (Option Value)} {st : List Value} {M : qM} {r : Option Value} {M' : qM} {i : Fin 4} {x : Int32} (hp : q_pg y pc = some (.iload_n i, 1)) (hl : ll[(i : Nat)]? = some (some (.int x))) (g : G d y (pc + 1, ll, .int x :: st, M) r M') : G d y (pc, ll, st, M) r M' :=
  G_same g fun l D dA kv N0 p e s m args below meth co R Q hX hR H locs ls cells slots hL hW hS k => lv_iload_n hX.1 hX.2.1 (q_dec hp) rfl (q_L_at hL hl) (k ls hL)
theorem G_lload {d y pc : Nat} {ll : List (Option Value)} {st : List Value} {M : qM} {r : Option Value} {M' : qM} {i : Nat} {x : Int64} (hp : q_pg y pc = some (.lload i, 2)) (hl : ll[i]? = some (some (.long x))) (g : G d y (pc + 2, ll, .long x :: st, M) r M') : G d y (pc, ll, st, M) r M' :=
  G_same g fun l D dA kv N0 p e s m args below meth co R Q hX hR H locs ls cells slots hL hW hS k => lv_lload hX.1 hX.2.1 (q_dec hp) (q_L_at hL hl) (k ls hL)
theorem G_lload_n {d y pc : Nat} {ll : List (Option Value)} {st : List Value} {M : qM} {r : Option Value} {M' : qM} {i : Fin 4} {x : Int64} (hp : q_pg y pc = some (.lload_n i, 1)) (hl : ll[(i : Nat)]? = some (some (.long x))) (g : G d y (pc + 1, ll, .long x :: st, M) r M') : G d y (pc, ll, st, M) r M' :=
  G_same g fun l D dA kv N0 p e s m args below meth co R Q hX hR H locs ls cells slots hL hW hS k => lv_lload_n hX.1 hX.2.1 (q_dec hp) rfl (q_L_at hL hl) (k ls hL)
theorem q_cv_rf {N0 : Nat} {kv : Nat → Value} (h : ∀ k, kv k = .null ∨ ∃ a, kv k = .ref a) {v : Value} (hv : (∃ i, v = .ref i) ∨ v = .null ∨ ∃ k, v = .float k) : q_cv N0 kv v = .null ∨ ∃ a, q_cv N0 kv v = .ref a := by
  rcases hv with ⟨i, rfl⟩ | rfl | ⟨k, rfl⟩
  · exact Or.inr ⟨_, rfl⟩
  · exact Or.inl rfl
  · exact h _
def q_isr : Value → Bool
  | .ref _ => true
  | .null => true
  | .float _ => true
  | _ => false
theorem q_isr_or {v : Value} (h : q_isr v = true) : (∃ i, v = .ref i) ∨ v = .null ∨ ∃ k, v = .float k := by
  cases v <;> first | exact Or.inl ⟨_, rfl⟩ | exact Or.inr (Or.inl rfl) | exact Or.inr (Or.inr ⟨_, rfl⟩) | cases h
theorem G_aload {d y pc : Nat} {ll : List (Option Value)} {st : List Value} {M : qM} {r : Option Value} {M' : qM} {i : Nat} {x : Value} (hp : q_pg y pc = some (.aload i, 2)) (hl : ll[i]? = some (some x)) (hr : q_isr x = true) (g : G d y (pc + 2, ll, x :: st, M) r M') : G d y (pc, ll, st, M) r M' := by
  refine G_same g fun l D dA kv N0 p e s m args below meth co R Q hX hR H locs ls cells slots hL hW hS k => ?_
  have k1 := k ls hL
  have h1 := q_L_at hL hl
  have k2 : W p l e R s m args below meth co H locs cells slots Q (F0 m (pc + 2) ls (q_cv N0 kv x :: st.map (q_cv N0 kv))) := k1
  rcases q_cv_rf (N0 := N0) hX.2.2.2.2.2.2.1.2.2.2.1 (q_isr_or hr) with h2 | ⟨a, h2⟩
  · rw [h2] at h1 k2; exact lv_aloadN hX.1 hX.2.1 (q_dec hp) h1 k2
  · rw [h2] at h1 k2; exact lv_aload hX.1 hX.2.1 (q_dec hp) h1 k2
theorem G_aload_n {d y pc : Nat} {ll : List (Option Value)} {st : List Value} {M : qM} {r : Option Value} {M' : qM} {i : Fin 4} {x : Value} (hp : q_pg y pc = some (.aload_n i, 1)) (hl : ll[(i : Nat)]? = some (some x)) (hr : q_isr x = true) (g : G d y (pc + 1, ll, x :: st, M) r M') : G d y (pc, ll, st, M) r M' := by
  refine G_same g fun l D dA kv N0 p e s m args below meth co R Q hX hR H locs ls cells slots hL hW hS k => ?_
  have k1 := k ls hL
  have h1 := q_L_at hL hl
  have k2 : W p l e R s m args below meth co H locs cells slots Q (F0 m (pc + 1) ls (q_cv N0 kv x :: st.map (q_cv N0 kv))) := k1
  rcases q_cv_rf (N0 := N0) hX.2.2.2.2.2.2.1.2.2.2.1 (q_isr_or hr) with h2 | ⟨a, h2⟩
  · rw [h2] at h1 k2; exact lv_aload_nN hX.1 hX.2.1 (q_dec hp) rfl h1 k2
  · rw [h2] at h1 k2; exact lv_aload_n hX.1 hX.2.1 (q_dec hp) rfl h1 k2
theorem G_istore {d y pc : Nat} {ll : List (Option Value)} {st : List Value} {M : qM} {r : Option Value} {M' : qM} {i : Nat} {x : Int32} (hp : q_pg y pc = some (.istore i, 2)) (hi : i < ll.length) (g : G d y (pc + 2, q_s1 ll i (.int x), st, M) r M') : G d y (pc, ll, .int x :: st, M) r M' :=
  G_same g fun l D dA kv N0 p e s m args below meth co R Q hX hR H locs ls cells slots hL hW hS k => lv_istore hX.1 hX.2.1 (q_dec hp) hL.2 (by rw [← hL.1]; exact hi) rfl (fun ls2 h2 => k ls2 (q_L_s1 (q_cv_cat hX.2.2.2.2.2.2.1.2.2.2.1) hL.1 h2))
theorem G_istore_n {d y pc : Nat} {ll : List (Option Value)} {st : List Value} {M : qM} {r : Option Value} {M' : qM} {i : Fin 4} {x : Int32} (hp : q_pg y pc = some (.istore_n i, 1)) (hi : (i : Nat) < ll.length) (g : G d y (pc + 1, q_s1 ll (i : Nat) (.int x), st, M) r M') : G d y (pc, ll, .int x :: st, M) r M' :=
  G_same g fun l D dA kv N0 p e s m args below meth co R Q hX hR H locs ls cells slots hL hW hS k => lv_istore_n hX.1 hX.2.1 (q_dec hp) rfl hL.2 (by rw [← hL.1]; exact hi) rfl (fun ls2 h2 => k ls2 (q_L_s1 (q_cv_cat hX.2.2.2.2.2.2.1.2.2.2.1) hL.1 h2))
theorem G_lstore {d y pc : Nat} {ll : List (Option Value)} {st : List Value} {M : qM} {r : Option Value} {M' : qM} {i : Nat} {x : Int64} (hp : q_pg y pc = some (.lstore i, 2)) (hi : i + 1 < ll.length) (g : G d y (pc + 2, q_s2 ll i (.long x), st, M) r M') : G d y (pc, ll, .long x :: st, M) r M' :=
  G_same g fun l D dA kv N0 p e s m args below meth co R Q hX hR H locs ls cells slots hL hW hS k => lv_lstore hX.1 hX.2.1 (q_dec hp) hL.2 (by rw [← hL.1]; exact hi) rfl (fun ls2 h2 => k ls2 (q_L_s2 (q_cv_cat hX.2.2.2.2.2.2.1.2.2.2.1) hL.1 h2))
theorem G_lstore_n {d y pc : Nat} {ll : List (Option Value)} {st : List Value} {M : qM} {r : Option Value} {M' : qM} {i : Fin 4} {x : Int64} (hp : q_pg y pc = some (.lstore_n i, 1)) (hi : (i : Nat) + 1 < ll.length) (g : G d y (pc + 1, q_s2 ll (i : Nat) (.long x), st, M) r M') : G d y (pc, ll, .long x :: st, M) r M' :=
  G_same g fun l D dA kv N0 p e s m args below meth co R Q hX hR H locs ls cells slots hL hW hS k => lv_lstore_n hX.1 hX.2.1 (q_dec hp) rfl hL.2 (by rw [← hL.1]; exact hi) rfl (fun ls2 h2 => k ls2 (q_L_s2 (q_cv_cat hX.2.2.2.2.2.2.1.2.2.2.1) hL.1 h2))
theorem G_astore {d y pc : Nat} {ll : List (Option Value)} {st : List Value} {M : qM} {r : Option Value} {M' : qM} {i : Nat} {x : Value} (hp : q_pg y pc = some (.astore i, 2)) (hr : q_isr x = true) (hi : i < ll.length) (g : G d y (pc + 2, q_s1 ll i x, st, M) r M') : G d y (pc, ll, x :: st, M) r M' := by
  refine G_same g fun l D dA kv N0 p e s m args below meth co R Q hX hR H locs ls cells slots hL hW hS k => ?_
  show W p l e R s m args below meth co H locs cells slots Q (F0 m pc ls (q_cv N0 kv x :: st.map (q_cv N0 kv)))
  have k3 : ∀ ls2 : Array Slot, lv_has ls2 (q_ml y) ((i, q_cv N0 kv x) :: (q_as (q_cv N0 kv) 0 ll).filter (fun q => !(q.1 == i) && !(q.1 + 1 == i && q.2.category == 2))) → W p l e R s m args below meth co H locs cells slots Q (F0 m (pc + 2) ls2 (st.map (q_cv N0 kv))) := fun ls2 h2 => k ls2 (q_L_s1 (q_cv_cat hX.2.2.2.2.2.2.1.2.2.2.1) hL.1 h2)
  have hi2 : i < q_ml y := by rw [← hL.1]; exact hi
  rcases q_cv_rf (N0 := N0) hX.2.2.2.2.2.2.1.2.2.2.1 (q_isr_or hr) with h2 | ⟨a, h2⟩
  · rw [h2] at k3 ⊢; exact lv_astoreN hX.1 hX.2.1 (q_dec hp) hL.2 hi2 rfl k3
  · rw [h2] at k3 ⊢; exact lv_astore hX.1 hX.2.1 (q_dec hp) hL.2 hi2 rfl k3
theorem G_astore_n {d y pc : Nat} {ll : List (Option Value)} {st : List Value} {M : qM} {r : Option Value} {M' : qM} {i : Fin 4} {x : Value} (hp : q_pg y pc = some (.astore_n i, 1)) (hr : q_isr x = true) (hi : (i : Nat) < ll.length) (g : G d y (pc + 1, q_s1 ll (i : Nat) x, st, M) r M') : G d y (pc, ll, x :: st, M) r M' := by
  refine G_same g fun l D dA kv N0 p e s m args below meth co R Q hX hR H locs ls cells slots hL hW hS k => ?_
  show W p l e R s m args below meth co H locs cells slots Q (F0 m pc ls (q_cv N0 kv x :: st.map (q_cv N0 kv)))
  have k3 : ∀ ls2 : Array Slot, lv_has ls2 (q_ml y) (((i : Nat), q_cv N0 kv x) :: (q_as (q_cv N0 kv) 0 ll).filter (fun q => !(q.1 == (i : Nat)) && !(q.1 + 1 == (i : Nat) && q.2.category == 2))) → W p l e R s m args below meth co H locs cells slots Q (F0 m (pc + 1) ls2 (st.map (q_cv N0 kv))) := fun ls2 h2 => k ls2 (q_L_s1 (q_cv_cat hX.2.2.2.2.2.2.1.2.2.2.1) hL.1 h2)
  have hi2 : (i : Nat) < q_ml y := by rw [← hL.1]; exact hi
  rcases q_cv_rf (N0 := N0) hX.2.2.2.2.2.2.1.2.2.2.1 (q_isr_or hr) with h2 | ⟨a, h2⟩
  · rw [h2] at k3 ⊢; exact lv_astore_nN hX.1 hX.2.1 (q_dec hp) rfl hL.2 hi2 rfl k3
  · rw [h2] at k3 ⊢; exact lv_astore_n hX.1 hX.2.1 (q_dec hp) rfl hL.2 hi2 rfl k3
theorem q_as_at {cv : Value → Value} {ll : List (Option Value)} {i : Nat} {x : Value} (h : ll[i]? = some (some x)) : ∃ k : Nat, (q_as cv 0 ll)[k]? = some (i, cv x) := List.getElem?_of_mem ((q_as_iff cv ll 0 i (cv x)).mpr ⟨x, Nat.zero_le _, by simpa using h, rfl⟩)
theorem G_iinc {d y pc : Nat} {ll : List (Option Value)} {st : List Value} {M : qM} {r : Option Value} {M' : qM} {i : Nat} {n : Int} {x : Int32} (hp : q_pg y pc = some (.iinc i n, 3)) (hl : ll[i]? = some (some (.int x))) (g : G d y (pc + 3, q_s1 ll i (.int (x + Int32.ofInt n)), st, M) r M') : G d y (pc, ll, st, M) r M' := by
  refine G_same g fun l D dA kv N0 p e s m args below meth co R Q hX hR H locs ls cells slots hL hW hS k => ?_
  obtain ⟨k0, hk0⟩ := q_as_at (cv := q_cv N0 kv) hl
  exact lv_iinc hX.1 hX.2.1 (q_dec hp) hL.2 (k := k0) hk0 rfl (by rw [← hL.1]; exact (List.getElem?_eq_some_iff.mp hl).1) rfl (fun ls2 h2 => k ls2 (q_L_s1 (q_cv_cat hX.2.2.2.2.2.2.1.2.2.2.1) hL.1 h2))
theorem G_goto {d y pc : Nat} {ll : List (Option Value)} {st : List Value} {M : qM} {r : Option Value} {M' : qM} {off : Int} (tgt : Nat) (hp : q_pg y pc = some (.goto off, 3)) (ht : (pc : Int) + off = (tgt : Int)) (g : G d y (tgt, ll, st, M) r M') : G d y (pc, ll, st, M) r M' :=
  G_same g fun l D dA kv N0 p e s m args below meth co R Q hX hR H locs ls cells slots hL hW hS k => lv_goto hX.1 hX.2.1 (q_dec hp) ht (k ls hL)
theorem G_ifnull {d y pc : Nat} {ll : List (Option Value)} {st : List Value} {M : qM} {r : Option Value} {M' : qM} {off : Int} {x : Nat} (hp : q_pg y pc = some (.ifnull off, 3)) (g : G d y (pc + 3, ll, st, M) r M') : G d y (pc, ll, .ref x :: st, M) r M' :=
  G_same g fun l D dA kv N0 p e s m args below meth co R Q hX hR H locs ls cells slots hL hW hS k => lv_ifnull hX.1 hX.2.1 (q_dec hp) (k ls hL)
theorem G_ifnullN {d y pc : Nat} {ll : List (Option Value)} {st : List Value} {M : qM} {r : Option Value} {M' : qM} {off : Int} (tgt : Nat) (hp : q_pg y pc = some (.ifnull off, 3)) (ht : (pc : Int) + off = (tgt : Int)) (g : G d y (tgt, ll, st, M) r M') : G d y (pc, ll, .null :: st, M) r M' :=
  G_same g fun l D dA kv N0 p e s m args below meth co R Q hX hR H locs ls cells slots hL hW hS k => lv_ifnullN hX.1 hX.2.1 (q_dec hp) ht (k ls hL)
theorem G_ifnonnull {d y pc : Nat} {ll : List (Option Value)} {st : List Value} {M : qM} {r : Option Value} {M' : qM} {off : Int} {x : Nat} (tgt : Nat) (hp : q_pg y pc = some (.ifnonnull off, 3)) (ht : (pc : Int) + off = (tgt : Int)) (g : G d y (tgt, ll, st, M) r M') : G d y (pc, ll, .ref x :: st, M) r M' :=
  G_same g fun l D dA kv N0 p e s m args below meth co R Q hX hR H locs ls cells slots hL hW hS k => lv_ifnonnull hX.1 hX.2.1 (q_dec hp) ht (k ls hL)
theorem G_ifnonnullN {d y pc : Nat} {ll : List (Option Value)} {st : List Value} {M : qM} {r : Option Value} {M' : qM} {off : Int} (hp : q_pg y pc = some (.ifnonnull off, 3)) (g : G d y (pc + 3, ll, st, M) r M') : G d y (pc, ll, .null :: st, M) r M' :=
  G_same g fun l D dA kv N0 p e s m args below meth co R Q hX hR H locs ls cells slots hL hW hS k => lv_ifnonnullN hX.1 hX.2.1 (q_dec hp) (k ls hL)
theorem G_icmp_eq {d y pc : Nat} {ll : List (Option Value)} {st : List Value} {M : qM} {r : Option Value} {M' : qM} {off : Int} {a b : Int32} (tgt : Nat) (hp : q_pg y pc = some (.if_icmp .eq off, 3)) (ht : (pc : Int) + off = (tgt : Int)) (gt : a = b → G d y (tgt, ll, st, M) r M') (gf : ¬ a = b → G d y (pc + 3, ll, st, M) r M') : G d y (pc, ll, .int b :: .int a :: st, M) r M' := by
  intro l D dA kv N0 n0 p e s m args below meth co R Q hB hn H locs ls hL hW hS
  exact lv_icmp_eq hB.1.1 hB.1.2.1 (q_dec hp) ht (fun h => gt h l D dA kv N0 n0 p e s m args below meth co R Q hB hn H locs ls hL hW hS) (fun h => gf h l D dA kv N0 n0 p e s m args below meth co R Q hB hn H locs ls hL hW hS)
theorem G_if_eq {d y pc : Nat} {ll : List (Option Value)} {st : List Value} {M : qM} {r : Option Value} {M' : qM} {off : Int} {a : Int32} (tgt : Nat) (hp : q_pg y pc = some (.ifCond .eq off, 3)) (ht : (pc : Int) + off = (tgt : Int)) (gt : a = 0 → G d y (tgt, ll, st, M) r M') (gf : ¬ a = 0 → G d y (pc + 3, ll, st, M) r M') : G d y (pc, ll, .int a :: st, M) r M' := by
  intro l D dA kv N0 n0 p e s m args below meth co R Q hB hn H locs ls hL hW hS
  exact lv_if_eq hB.1.1 hB.1.2.1 (q_dec hp) ht (fun h => gt h l D dA kv N0 n0 p e s m args below meth co R Q hB hn H locs ls hL hW hS) (fun h => gf h l D dA kv N0 n0 p e s m args below meth co R Q hB hn H locs ls hL hW hS)
theorem G_icmp_ne {d y pc : Nat} {ll : List (Option Value)} {st : List Value} {M : qM} {r : Option Value} {M' : qM} {off : Int} {a b : Int32} (tgt : Nat) (hp : q_pg y pc = some (.if_icmp .ne off, 3)) (ht : (pc : Int) + off = (tgt : Int)) (gt : ¬ a = b → G d y (tgt, ll, st, M) r M') (gf : a = b → G d y (pc + 3, ll, st, M) r M') : G d y (pc, ll, .int b :: .int a :: st, M) r M' := by
  intro l D dA kv N0 n0 p e s m args below meth co R Q hB hn H locs ls hL hW hS
  exact lv_icmp_ne hB.1.1 hB.1.2.1 (q_dec hp) ht (fun h => gt h l D dA kv N0 n0 p e s m args below meth co R Q hB hn H locs ls hL hW hS) (fun h => gf h l D dA kv N0 n0 p e s m args below meth co R Q hB hn H locs ls hL hW hS)
theorem G_if_ne {d y pc : Nat} {ll : List (Option Value)} {st : List Value} {M : qM} {r : Option Value} {M' : qM} {off : Int} {a : Int32} (tgt : Nat) (hp : q_pg y pc = some (.ifCond .ne off, 3)) (ht : (pc : Int) + off = (tgt : Int)) (gt : ¬ a = 0 → G d y (tgt, ll, st, M) r M') (gf : a = 0 → G d y (pc + 3, ll, st, M) r M') : G d y (pc, ll, .int a :: st, M) r M' := by
  intro l D dA kv N0 n0 p e s m args below meth co R Q hB hn H locs ls hL hW hS
  exact lv_if_ne hB.1.1 hB.1.2.1 (q_dec hp) ht (fun h => gt h l D dA kv N0 n0 p e s m args below meth co R Q hB hn H locs ls hL hW hS) (fun h => gf h l D dA kv N0 n0 p e s m args below meth co R Q hB hn H locs ls hL hW hS)
theorem G_icmp_lt {d y pc : Nat} {ll : List (Option Value)} {st : List Value} {M : qM} {r : Option Value} {M' : qM} {off : Int} {a b : Int32} (tgt : Nat) (hp : q_pg y pc = some (.if_icmp .lt off, 3)) (ht : (pc : Int) + off = (tgt : Int)) (gt : a < b → G d y (tgt, ll, st, M) r M') (gf : ¬ (a < b) → G d y (pc + 3, ll, st, M) r M') : G d y (pc, ll, .int b :: .int a :: st, M) r M' := by
  intro l D dA kv N0 n0 p e s m args below meth co R Q hB hn H locs ls hL hW hS
  exact lv_icmp_lt hB.1.1 hB.1.2.1 (q_dec hp) ht (fun h => gt h l D dA kv N0 n0 p e s m args below meth co R Q hB hn H locs ls hL hW hS) (fun h => gf h l D dA kv N0 n0 p e s m args below meth co R Q hB hn H locs ls hL hW hS)
theorem G_if_lt {d y pc : Nat} {ll : List (Option Value)} {st : List Value} {M : qM} {r : Option Value} {M' : qM} {off : Int} {a : Int32} (tgt : Nat) (hp : q_pg y pc = some (.ifCond .lt off, 3)) (ht : (pc : Int) + off = (tgt : Int)) (gt : a < 0 → G d y (tgt, ll, st, M) r M') (gf : ¬ (a < 0) → G d y (pc + 3, ll, st, M) r M') : G d y (pc, ll, .int a :: st, M) r M' := by
  intro l D dA kv N0 n0 p e s m args below meth co R Q hB hn H locs ls hL hW hS
  exact lv_if_lt hB.1.1 hB.1.2.1 (q_dec hp) ht (fun h => gt h l D dA kv N0 n0 p e s m args below meth co R Q hB hn H locs ls hL hW hS) (fun h => gf h l D dA kv N0 n0 p e s m args below meth co R Q hB hn H locs ls hL hW hS)
theorem G_icmp_ge {d y pc : Nat} {ll : List (Option Value)} {st : List Value} {M : qM} {r : Option Value} {M' : qM} {off : Int} {a b : Int32} (tgt : Nat) (hp : q_pg y pc = some (.if_icmp .ge off, 3)) (ht : (pc : Int) + off = (tgt : Int)) (gt : b ≤ a → G d y (tgt, ll, st, M) r M') (gf : ¬ (b ≤ a) → G d y (pc + 3, ll, st, M) r M') : G d y (pc, ll, .int b :: .int a :: st, M) r M' := by
  intro l D dA kv N0 n0 p e s m args below meth co R Q hB hn H locs ls hL hW hS
  exact lv_icmp_ge hB.1.1 hB.1.2.1 (q_dec hp) ht (fun h => gt h l D dA kv N0 n0 p e s m args below meth co R Q hB hn H locs ls hL hW hS) (fun h => gf h l D dA kv N0 n0 p e s m args below meth co R Q hB hn H locs ls hL hW hS)
theorem G_if_ge {d y pc : Nat} {ll : List (Option Value)} {st : List Value} {M : qM} {r : Option Value} {M' : qM} {off : Int} {a : Int32} (tgt : Nat) (hp : q_pg y pc = some (.ifCond .ge off, 3)) (ht : (pc : Int) + off = (tgt : Int)) (gt : 0 ≤ a → G d y (tgt, ll, st, M) r M') (gf : ¬ (0 ≤ a) → G d y (pc + 3, ll, st, M) r M') : G d y (pc, ll, .int a :: st, M) r M' := by
  intro l D dA kv N0 n0 p e s m args below meth co R Q hB hn H locs ls hL hW hS
  exact lv_if_ge hB.1.1 hB.1.2.1 (q_dec hp) ht (fun h => gt h l D dA kv N0 n0 p e s m args below meth co R Q hB hn H locs ls hL hW hS) (fun h => gf h l D dA kv N0 n0 p e s m args below meth co R Q hB hn H locs ls hL hW hS)
theorem G_icmp_gt {d y pc : Nat} {ll : List (Option Value)} {st : List Value} {M : qM} {r : Option Value} {M' : qM} {off : Int} {a b : Int32} (tgt : Nat) (hp : q_pg y pc = some (.if_icmp .gt off, 3)) (ht : (pc : Int) + off = (tgt : Int)) (gt : b < a → G d y (tgt, ll, st, M) r M') (gf : ¬ (b < a) → G d y (pc + 3, ll, st, M) r M') : G d y (pc, ll, .int b :: .int a :: st, M) r M' := by
  intro l D dA kv N0 n0 p e s m args below meth co R Q hB hn H locs ls hL hW hS
  exact lv_icmp_gt hB.1.1 hB.1.2.1 (q_dec hp) ht (fun h => gt h l D dA kv N0 n0 p e s m args below meth co R Q hB hn H locs ls hL hW hS) (fun h => gf h l D dA kv N0 n0 p e s m args below meth co R Q hB hn H locs ls hL hW hS)
theorem G_if_gt {d y pc : Nat} {ll : List (Option Value)} {st : List Value} {M : qM} {r : Option Value} {M' : qM} {off : Int} {a : Int32} (tgt : Nat) (hp : q_pg y pc = some (.ifCond .gt off, 3)) (ht : (pc : Int) + off = (tgt : Int)) (gt : 0 < a → G d y (tgt, ll, st, M) r M') (gf : ¬ (0 < a) → G d y (pc + 3, ll, st, M) r M') : G d y (pc, ll, .int a :: st, M) r M' := by
  intro l D dA kv N0 n0 p e s m args below meth co R Q hB hn H locs ls hL hW hS
  exact lv_if_gt hB.1.1 hB.1.2.1 (q_dec hp) ht (fun h => gt h l D dA kv N0 n0 p e s m args below meth co R Q hB hn H locs ls hL hW hS) (fun h => gf h l D dA kv N0 n0 p e s m args below meth co R Q hB hn H locs ls hL hW hS)
theorem G_icmp_le {d y pc : Nat} {ll : List (Option Value)} {st : List Value} {M : qM} {r : Option Value} {M' : qM} {off : Int} {a b : Int32} (tgt : Nat) (hp : q_pg y pc = some (.if_icmp .le off, 3)) (ht : (pc : Int) + off = (tgt : Int)) (gt : a ≤ b → G d y (tgt, ll, st, M) r M') (gf : ¬ (a ≤ b) → G d y (pc + 3, ll, st, M) r M') : G d y (pc, ll, .int b :: .int a :: st, M) r M' := by
  intro l D dA kv N0 n0 p e s m args below meth co R Q hB hn H locs ls hL hW hS
  exact lv_icmp_le hB.1.1 hB.1.2.1 (q_dec hp) ht (fun h => gt h l D dA kv N0 n0 p e s m args below meth co R Q hB hn H locs ls hL hW hS) (fun h => gf h l D dA kv N0 n0 p e s m args below meth co R Q hB hn H locs ls hL hW hS)
theorem G_if_le {d y pc : Nat} {ll : List (Option Value)} {st : List Value} {M : qM} {r : Option Value} {M' : qM} {off : Int} {a : Int32} (tgt : Nat) (hp : q_pg y pc = some (.ifCond .le off, 3)) (ht : (pc : Int) + off = (tgt : Int)) (gt : a ≤ 0 → G d y (tgt, ll, st, M) r M') (gf : ¬ (a ≤ 0) → G d y (pc + 3, ll, st, M) r M') : G d y (pc, ll, .int a :: st, M) r M' := by
  intro l D dA kv N0 n0 p e s m args below meth co R Q hB hn H locs ls hL hW hS
  exact lv_if_le hB.1.1 hB.1.2.1 (q_dec hp) ht (fun h => gt h l D dA kv N0 n0 p e s m args below meth co R Q hB hn H locs ls hL hW hS) (fun h => gf h l D dA kv N0 n0 p e s m args below meth co R Q hB hn H locs ls hL hW hS)
theorem G_idiv {d y pc : Nat} {ll : List (Option Value)} {st : List Value} {M : qM} {r : Option Value} {M' : qM} {a b : Int32} (hp : q_pg y pc = some (.idiv, 1)) (hne : ¬ b = 0) (g : G d y (pc + 1, ll, .int (a / b) :: st, M) r M') : G d y (pc, ll, .int b :: .int a :: st, M) r M' :=
  G_same g fun l D dA kv N0 p e s m args below meth co R Q hX hR H locs ls cells slots hL hW hS k => lv_idiv hX.1 hX.2.1 (q_dec hp) hne (k ls hL)
theorem G_ldiv {d y pc : Nat} {ll : List (Option Value)} {st : List Value} {M : qM} {r : Option Value} {M' : qM} {a b : Int64} (hp : q_pg y pc = some (.ldiv, 1)) (hne : ¬ b = 0) (g : G d y (pc + 1, ll, .long (a / b) :: st, M) r M') : G d y (pc, ll, .long b :: .long a :: st, M) r M' :=
  G_same g fun l D dA kv N0 p e s m args below meth co R Q hX hR H locs ls cells slots hL hW hS k => lv_ldiv hX.1 hX.2.1 (q_dec hp) hne (k ls hL)
theorem G_lrem {d y pc : Nat} {ll : List (Option Value)} {st : List Value} {M : qM} {r : Option Value} {M' : qM} {a b : Int64} (hp : q_pg y pc = some (.lrem, 1)) (hne : ¬ b = 0) (g : G d y (pc + 1, ll, .long (a - a / b * b) :: st, M) r M') : G d y (pc, ll, .long b :: .long a :: st, M) r M' :=
  G_same g fun l D dA kv N0 p e s m args below meth co R Q hX hR H locs ls cells slots hL hW hS k => lv_lrem hX.1 hX.2.1 (q_dec hp) hne (k ls hL)
theorem G_tsIn {d y pc : Nat} {ll : List (Option Value)} {st : List Value} {M : qM} {r : Option Value} {M' : qM} {dflt lo hi : Int} {offs : Array Int} {len : Nat} {x : Int32} {off : Int} (tgt : Nat) (hp : q_pg y pc = some (.tableswitch dflt lo hi offs, len)) (h1 : ¬ x.toInt < lo) (h2 : ¬ hi < x.toInt) (ho : offs[(x.toInt - lo).toNat]? = some off) (ht : (pc : Int) + off = (tgt : Int)) (g : G d y (tgt, ll, st, M) r M') : G d y (pc, ll, .int x :: st, M) r M' :=
  G_same g fun l D dA kv N0 p e s m args below meth co R Q hX hR H locs ls cells slots hL hW hS k => lv_tableIn hX.1 hX.2.1 (q_dec hp) h1 h2 ho ht (k ls hL)
theorem G_tsOut {d y pc : Nat} {ll : List (Option Value)} {st : List Value} {M : qM} {r : Option Value} {M' : qM} {dflt lo hi : Int} {offs : Array Int} {len : Nat} {x : Int32} (tgt : Nat) (hp : q_pg y pc = some (.tableswitch dflt lo hi offs, len)) (h : x.toInt < lo ∨ hi < x.toInt) (ht : (pc : Int) + dflt = (tgt : Int)) (g : G d y (tgt, ll, st, M) r M') : G d y (pc, ll, .int x :: st, M) r M' :=
  G_same g fun l D dA kv N0 p e s m args below meth co R Q hX hR H locs ls cells slots hL hW hS k => lv_tableOut hX.1 hX.2.1 (q_dec hp) h ht (k ls hL)
theorem G_ls {d y pc : Nat} {ll : List (Option Value)} {st : List Value} {M : qM} {r : Option Value} {M' : qM} {dflt : Int} {ps : Array (Int × Int)} {len : Nat} {x : Int32} {off : Int} (tgt : Nat) (hp : q_pg y pc = some (.lookupswitch dflt ps, len)) (hs : (ps.toList.zip (ps.toList.drop 1)).all (fun (a, next) => a.1 < next.1) = true) (ho : Op.lookupswitch.offset ps.toList dflt x.toInt = off) (ht : (pc : Int) + off = (tgt : Int)) (g : G d y (tgt, ll, st, M) r M') : G d y (pc, ll, .int x :: st, M) r M' :=
  G_same g fun l D dA kv N0 p e s m args below meth co R Q hX hR H locs ls cells slots hL hW hS k => lv_lookup hX.1 hX.2.1 (q_dec hp) hs ho ht (k ls hL)
theorem G_ldc {d y pc : Nat} {ll : List (Option Value)} {st : List Value} {M : qM} {r : Option Value} {M' : qM} {idx : Nat} {x : Int32} (hp : q_pg y pc = some (.ldc idx, 2)) (hc : q_ct (q_on y) idx = some (.int x)) (g : G d y (pc + 2, ll, .int x :: st, M) r M') : G d y (pc, ll, st, M) r M' :=
  G_same g fun l D dA kv N0 p e s m args below meth co R Q hX hR H locs ls cells slots hL hW hS k => lv_ldc hX.1 hX.2.1 hX.2.2.2.1 (hX.2.2.2.2.1 _ (q_cti (q_on1 (q_ylt hp)).1 hc)) (q_dec hp) (k ls hL)
theorem G_ldc2 {d y pc : Nat} {ll : List (Option Value)} {st : List Value} {M : qM} {r : Option Value} {M' : qM} {idx : Nat} {x : Int64} (hp : q_pg y pc = some (.ldc2_w idx, 3)) (hc : q_ct (q_on y) idx = some (.long x)) (g : G d y (pc + 3, ll, .long x :: st, M) r M') : G d y (pc, ll, st, M) r M' :=
  G_same g fun l D dA kv N0 p e s m args below meth co R Q hX hR H locs ls cells slots hL hW hS k => lv_ldc2 hX.1 hX.2.1 hX.2.2.2.1 (hX.2.2.2.2.1 _ (q_ctl (q_on1 (q_ylt hp)).1 hc)) (q_dec hp) (k ls hL)
end
section
/-! ===== rules of the judgement G: fields, arrays, new cells, calls, ends ===== -/
theorem G_get {d y pc : Nat} {ll : List (Option Value)} {st : List Value} {M : qM} {r : Option Value} {M' : qM} {idx ci k i : Nat} (hp : q_pg y pc = some (.getfield idx, 3)) (hf : q_fl (q_on y) idx = some (ci, k)) (hs : q_SH i = some (.inl ci)) (hi : i < q_n M) (g : G d y (pc + 3, ll, q_av M i (q_fty ci k) k :: st, M) r M') : G d y (pc, ll, .ref i :: st, M) r M' := by
  refine G_same g fun l D dA kv N0 p e s m args below meth co R Q hX hR H locs ls cells slots hL hW hS kk => ?_
  obtain ⟨hc, hk, hm⟩ := q_fl1 (q_on1 (q_ylt hp)).1 hf
  have hts := hX.2.2.2.2.1
  have hK := hX.2.2.2.2.2.2.1.1
  obtain ⟨cell, q1, q2, q3, q4⟩ := q_at_obj (hW.2 i hi) hs
  obtain ⟨hSl, hfc, kC, hkC, hkind⟩ := hK.1 ci _ (q_clk ci hc)
  obtain ⟨cf, kf, fi, f, hi2, hsl⟩ := hSl k hk
  have k1 := kk ls hL
  rw [List.map_cons, q_cv_av] at k1
  exact W.getf hX.1 hX.2.1 hX.2.2.2.1 (hts _ hm) hi2 (u_facts hfc hkC (u_lays hts (q_lay hc) hk) hi2).1 q1 (by rw [q3]; exact fun h => by cases h) (v := q_fv N0 M i (q_fty ci k) k) (by rw [hsl]; exact q4 k hk) rfl rfl (q_dec hp) k1
def q_ini (y : Nat) : Bool := [0, 10, 18, 30, 41, 53, 61, 66, 67, 98].any (fun x => Nat.beq x y)
def q_pv : FieldType → Value → Bool
  | .int, .int _ => true
  | .boolean, .int x => x == 0 || x == 1
  | .object _, .ref _ => true
  | .object _, .null => true
  | .array _, .ref _ => true
  | .array _, .null => true
  | _, _ => false
theorem q_pv_ok {N0 : Nat} {kv : Nat → Value} {ty : FieldType} {v : Value} (h : q_pv ty v = true) : narrow ty (q_cv N0 kv v) = q_cv N0 kv v ∧ fits ty (q_cv N0 kv v) = true := by
  unfold q_pv at h
  split at h
  · exact ⟨rfl, rfl⟩
  · rename_i x
    simp only [Bool.or_eq_true, beq_iff_eq] at h
    rcases h with rfl | rfl <;> exact ⟨rfl, rfl⟩
  · exact ⟨rfl, rfl⟩
  · exact ⟨rfl, rfl⟩
  · exact ⟨rfl, rfl⟩
  · exact ⟨rfl, rfl⟩
  · cases h
def q_pf (y ci k : Nat) : Bool := !(q_T ci k).2.2.2 || (q_ini y && Nat.beq ci (q_on y))
theorem q_ini0 : (List.range 162).all (fun y => !q_ini y || decide ((q_yn y).name = "<init>")) = true := by decide +kernel
theorem q_own0 : (List.range 10).all (fun ci => (List.range (q_nf ci)).all (fun k => decide ((q_T ci k).1 = q_os ci))) = true := by decide +kernel
theorem G_step1 {d y pc pc2 : Nat} {ll : List (Option Value)} {st st2 : List Value} {M M1 : qM} {r : Option Value} {M' : qM} (hn1 : q_n M1 = q_n M) (g : G d y (pc2, ll, st2, M1) r M')
    (h : ∀ (l : Launch) (D : va_G) (dA : Nat → ClassId) (kv : Nat → Value) (N0 : Nat) (p : Program) (e : Env) (s : State) (m : MethodId) (args : Array Value) (below : List Frame) (meth : Method) (co : Code) (R : Room) (Q : State → Prop), q_X D dA kv N0 y p s m args meth co → ∀ (H : Heap) (locs : List Loc) (ls : Array Slot) (cells slots : Nat), q_W D dA N0 M H → va_S (q_A N0) s.heap H locs →
      (∀ (H1 : Heap) (locs1 : List Loc), q_W D dA N0 M1 H1 → va_S (q_A N0) s.heap H1 locs1 → W p l e R s m args below meth co H1 locs1 cells slots Q (F0 m pc2 ls (st2.map (q_cv N0 kv)))) → W p l e R s m args below meth co H locs cells slots Q (F0 m pc ls (st.map (q_cv N0 kv)))) : G d y (pc, ll, st, M) r M' := by
  intro l D dA kv N0 n0 p e s m args below meth co R Q hB hn H locs ls hL hW hS
  refine h l D dA kv N0 p e s m args below meth co R Q hB.1 H locs ls _ _ hW hS (fun H1 locs1 hW1 hS1 => ?_)
  have k := g l D dA kv N0 n0 p e s m args below meth co R Q hB (by show n0 ≤ q_n M1; rw [hn1]; exact hn) H1 locs1 ls hL hW1 hS1
  have k : W p l e R s m args below meth co H1 locs1 (q_n M1 - n0) (q_sl (q_n M1) - q_sl n0) Q (F0 m pc2 ls (st2.map (q_cv N0 kv))) := k
  rw [hn1] at k
  exact k
theorem G_put {d y pc : Nat} {ll : List (Option Value)} {st : List Value} {M : qM} {r : Option Value} {M' : qM} {idx ci k i : Nat} {v : Value} {M1 : qM} (hp : q_pg y pc = some (.putfield idx, 3)) (hf : q_fl (q_on y) idx = some (ci, k)) (hs : q_SH i = some (.inl ci)) (hi : i < q_n M) (hw : q_w M i (q_fty ci k) k v = some M1) (hv : q_pv (q_fty ci k) v = true) (hfin : q_pf y ci k = true) (g : G d y (pc + 3, ll, st, M1) r M') : G d y (pc, ll, v :: .ref i :: st, M) r M' := by
  refine G_step1 (q_w_n hw) g fun l D dA kv N0 p e s m args below meth co R Q hX H locs ls cells slots hW hS kk => ?_
  obtain ⟨hc, hk, hm⟩ := q_fl1 (q_on1 (q_ylt hp)).1 hf
  have hts := hX.2.2.2.2.1
  have hK := hX.2.2.2.2.2.2.1.1
  have hcl := q_clk ci hc
  have hap := va_apart (own := q_os (q_on y)) hts (q_lay hc) (q_fty ci) (q_ftyk hc) (q_nmk hc) hK hcl
  obtain ⟨cell, q1, q2, q3, q4⟩ := q_at_obj (hW.2 i hi) hs
  obtain ⟨hSl, hfc, kC, hkC, hkind⟩ := hK.1 ci _ hcl
  obtain ⟨cf, kf, fi, f, hi2, hsl⟩ := hSl k hk
  obtain ⟨hn, hfit⟩ := q_pv_ok (N0 := N0) (kv := kv) hv
  have hlay := hts _ (q_lay hc _ (u_in_lay hk))
  have hst := (u_facts hfc hkC (u_lays hts (q_lay hc) hk) hi2).1
  have tail : ∀ H1 : Heap, H1[N0 + i]? = some (cell.setSlot f.slot (q_cv N0 kv v)) → H1.size = H.size → (∀ q, q ≠ N0 + i → H1[q]? = H[q]?) → q_W D dA N0 M1 H1 ∧ va_S (q_A N0) s.heap H1 (locs ++ [⟨N0 + i, f.slot⟩]) := by
    intro H1 e1 e2 e3
    refine ⟨q_W_put hW hw e2 e3 ?_, hS.put e2 e3 (Nat.le_add_right _ _)⟩
    unfold q_at
    rw [hs]
    rw [hsl] at e1
    refine t_OB.to (V := updV (fun k => q_fv N0 M i (q_fty ci k) k) k (q_cv N0 kv v)) ⟨_, e1, q2, q3, t_set q4 hap hk _⟩ (fun j _ => ?_)
    by_cases e : j = k
    · subst e
      simp only [updV, if_true]
      exact (q_w_self hw).symm
    · simp only [updV, if_neg e]
      exact (q_w_same hw e _).symm
  cases hff : (q_T ci k).2.2.2 with
  | false =>
    unfold u_lay at hlay
    rw [if_neg (by rw [hff]; decide)] at hlay
    have h6 := u_store hfc hkC hkind hlay hi2 (q_ftyk hc k hk) hn hfit
    exact W.putK hX.1 hX.2.1 (f := f) ⟨hX.2.2.2.1, hts _ hm, ⟨_, _, _, hi2⟩, hst⟩ (by rw [q2]; exact h6) q1 q3 (by rw [hsl]; exact k2_hasslot (q4 k hk)) rfl rfl (q_dec hp) (fun H1 e1 e2 e3 => kk H1 _ (tail H1 e1 e2 e3).1 (tail H1 e1 e2 e3).2)
  | true =>
    unfold q_pf at hfin
    rw [hff] at hfin
    simp only [Bool.not_true, Bool.false_or, Bool.and_eq_true] at hfin
    have hini : (q_yn y).name = "<init>" := by
      have h1 := List.all_eq_true.mp q_ini0 y (List.mem_range.mpr (q_ylt hp))
      simp only [hfin.1, Bool.not_true, Bool.false_or, decide_eq_true_eq] at h1
      exact h1
    have hown3 : (q_T ci k).1 = q_os (q_on y) := by
      have h1 := List.all_eq_true.mp (List.all_eq_true.mp q_own0 ci (List.mem_range.mpr hc)) k (List.mem_range.mpr hk)
      rw [of_decide_eq_true h1, Nat.eq_of_beq_eq_true hfin.2]
    unfold u_lay at hlay
    rw [if_pos hff] at hlay
    have hcf : m.cls = cf := by
      obtain ⟨_, _, c', _, _, _, -, -, hf', -, -, -, hown2, -⟩ := Cond.laysFinal_spec hlay
      have e1 : c' = cf := by have := hi2.symm.trans hf'; simp at this; exact this.1.symm
      rw [hown3] at hown2
      rw [← e1]; exact Option.some.inj (hX.2.2.2.1.symm.trans hown2)
    have h6 := u_fits hfc hkC hkind (Or.inr hlay) hi2 (q_ftyk hc k hk) hn hfit
    exact W.putFinK hX.1 hX.2.1 hX.2.2.2.1 (hts _ hm) hi2 hst hcf (hX.2.2.2.2.2.1.trans hini) (by rw [q2]; exact h6) q1 q3 (by rw [hsl]; exact k2_hasslot (q4 k hk)) rfl rfl (q_dec hp) (fun H1 e1 e2 e3 => kk H1 _ (tail H1 e1 e2 e3).1 (tail H1 e1 e2 e3).2)
theorem G_iald {d y pc : Nat} {ll : List (Option Value)} {st : List Value} {M : qM} {r : Option Value} {M' : qM} {i n : Nat} {j : Int32} (hp : q_pg y pc = some (.iaload, 1)) (hs : q_SH i = some (.inr (0, n))) (hi : i < q_n M) (hin : vp_in j n) (g : G d y (pc + 1, ll, .int (q_i M i j.toNatClampNeg) :: st, M) r M') : G d y (pc, ll, .int j :: .ref i :: st, M) r M' := by
  refine G_same g fun l D dA kv N0 p e s m args below meth co R Q hX hR H locs ls cells slots hL hW hS kk => ?_
  have hK := hX.2.2.2.2.2.2.1.1
  have hlt : j.toNatClampNeg < n := Nat.not_le.mp fun q => hin (Or.inr q)
  have h1 := q_at_arr (hW.2 i hi) hs
  exact W.iald hX.1 hX.2.1 h1 ((hK.2 0 _ (q_tysk dA 0 (by decide))).1 n _) (fun q => by cases q) (by rw [arrV_size]; exact hin) (by rw [arrV_read _ _ hlt]; rfl) rfl rfl (q_dec hp) (kk ls hL)
theorem G_zald {d y pc : Nat} {ll : List (Option Value)} {st : List Value} {M : qM} {r : Option Value} {M' : qM} {i n : Nat} {j : Int32} (hp : q_pg y pc = some (.baload, 1)) (hs : q_SH i = some (.inr (1, n))) (hi : i < q_n M) (hin : vp_in j n) (g : G d y (pc + 1, ll, .int (q_i M i j.toNatClampNeg) :: st, M) r M') : G d y (pc, ll, .int j :: .ref i :: st, M) r M' := by
  refine G_same g fun l D dA kv N0 p e s m args below meth co R Q hX hR H locs ls cells slots hL hW hS kk => ?_
  have hK := hX.2.2.2.2.2.2.1.1
  have hlt : j.toNatClampNeg < n := Nat.not_le.mp fun q => hin (Or.inr q)
  have h1 := q_at_arr (hW.2 i hi) hs
  exact W.zald hX.1 hX.2.1 h1 ((hK.2 1 _ (q_tysk dA 1 (by decide))).1 n _) (fun q => by cases q) (by rw [arrV_size]; exact hin) (by rw [arrV_read _ _ hlt]; rfl) rfl rfl (q_dec hp) (kk ls hL)
theorem G_bald {d y pc : Nat} {ll : List (Option Value)} {st : List Value} {M : qM} {r : Option Value} {M' : qM} {i n : Nat} {j : Int32} (hp : q_pg y pc = some (.baload, 1)) (hs : q_SH i = some (.inr (2, n))) (hi : i < q_n M) (hin : vp_in j n) (g : G d y (pc + 1, ll, .int (q_i M i j.toNatClampNeg) :: st, M) r M') : G d y (pc, ll, .int j :: .ref i :: st, M) r M' := by
  refine G_same g fun l D dA kv N0 p e s m args below meth co R Q hX hR H locs ls cells slots hL hW hS kk => ?_
  have hK := hX.2.2.2.2.2.2.1.1
  have hlt : j.toNatClampNeg < n := Nat.not_le.mp fun q => hin (Or.inr q)
  have h1 := q_at_arr (hW.2 i hi) hs
  exact W.bald hX.1 hX.2.1 h1 ((hK.2 2 _ (q_tysk dA 2 (by decide))).1 n _) (fun q => by cases q) (by rw [arrV_size]; exact hin) (by rw [arrV_read _ _ hlt]; rfl) rfl rfl (q_dec hp) (kk ls hL)
theorem G_lald {d y pc : Nat} {ll : List (Option Value)} {st : List Value} {M : qM} {r : Option Value} {M' : qM} {i n : Nat} {j : Int32} (hp : q_pg y pc = some (.laload, 1)) (hs : q_SH i = some (.inr (3, n))) (hi : i < q_n M) (hin : vp_in j n) (g : G d y (pc + 1, ll, .long (q_l M i j.toNatClampNeg) :: st, M) r M') : G d y (pc, ll, .int j :: .ref i :: st, M) r M' := by
  refine G_same g fun l D dA kv N0 p e s m args below meth co R Q hX hR H locs ls cells slots hL hW hS kk => ?_
  have hK := hX.2.2.2.2.2.2.1.1
  have hlt : j.toNatClampNeg < n := Nat.not_le.mp fun q => hin (Or.inr q)
  have h1 := q_at_arr (hW.2 i hi) hs
  exact W.lald hX.1 hX.2.1 h1 ((hK.2 3 _ (q_tysk dA 3 (by decide))).1 n _) (fun q => by cases q) (by rw [arrV_size]; exact hin) (by rw [arrV_read _ _ hlt]; rfl) rfl rfl (q_dec hp) (kk ls hL)
theorem G_aald {d y pc : Nat} {ll : List (Option Value)} {st : List Value} {M : qM} {r : Option Value} {M' : qM} {i t n : Nat} {j : Int32} (hp : q_pg y pc = some (.aaload, 1)) (hs : q_SH i = some (.inr (t, n))) (ht : 4 ≤ t ∧ t < 7) (hi : i < q_n M) (hin : vp_in j n) (g : G d y (pc + 1, ll, va_rf (q_r M i j.toNatClampNeg) :: st, M) r M') : G d y (pc, ll, .int j :: .ref i :: st, M) r M' := by
  refine G_same g fun l D dA kv N0 p e s m args below meth co R Q hX hR H locs ls cells slots hL hW hS kk => ?_
  have hK := hX.2.2.2.2.2.2.1.1
  have hlt : j.toNatClampNeg < n := Nat.not_le.mp fun q => hin (Or.inr q)
  have h1 := q_at_arr (hW.2 i hi) hs
  have hkd : q_kd (q_ety t) = 2 ∧ (q_ety t).isReference = true := by
    obtain ⟨h4, h7⟩ := ht
    rcases (show t = 4 ∨ t = 5 ∨ t = 6 by omega) with rfl | rfl | rfl <;> exact ⟨rfl, rfl⟩
  have k1 := kk ls hL
  have ev : q_cv N0 kv (va_rf (q_r M i j.toNatClampNeg)) = q_fv N0 M i (q_ety t) j.toNatClampNeg := by
    rw [← q_cv_av N0 kv]
    unfold q_av
    rw [hkd.1]
    rfl
  rw [List.map_cons, ev] at k1
  exact W.aald hX.1 hX.2.1 h1 ((hK.2 t _ (q_tysk dA t ht.2)).1 n _) hkd.2 (fun q => by cases q) (by rw [arrV_size]; exact hin) (by rw [arrV_read _ _ hlt]) rfl rfl (q_dec hp) k1
theorem G_alen {d y pc : Nat} {ll : List (Option Value)} {st : List Value} {M : qM} {r : Option Value} {M' : qM} {i t n : Nat} {x : Int32} (hp : q_pg y pc = some (.arraylength, 1)) (hs : q_SH i = some (.inr (t, n))) (ht : t < 7) (hi : i < q_n M) (hx : Int32.ofNat n = x) (g : G d y (pc + 1, ll, .int x :: st, M) r M') : G d y (pc, ll, .ref i :: st, M) r M' := by
  refine G_same g fun l D dA kv N0 p e s m args below meth co R Q hX hR H locs ls cells slots hL hW hS kk => ?_
  have hK := hX.2.2.2.2.2.2.1.1
  have h1 := q_at_arr (hW.2 i hi) hs
  exact W.alen hX.1 hX.2.1 h1 ((hK.2 t _ (q_tysk dA t ht)).1 n _) (by rw [arrV_size]; exact hx) rfl rfl (q_dec hp) (kk ls hL)
theorem G_iast {d y pc : Nat} {ll : List (Option Value)} {st : List Value} {M : qM} {r : Option Value} {M' : qM} {i n : Nat} {j : Int32} {x : Int32} (hp : q_pg y pc = some (.iastore, 1)) (hs : q_SH i = some (.inr (0, n))) (hi : i < q_n M) (hin : vp_in j n) (g : G d y (pc + 1, ll, st, q_wi M i j.toNatClampNeg x) r M') : G d y (pc, ll, .int x :: .int j :: .ref i :: st, M) r M' := by
  have hw : q_w M i (q_ety 0) j.toNatClampNeg (.int x) = some (q_wi M i j.toNatClampNeg x) := rfl
  refine G_step1 (q_w_n hw) g fun l D dA kv N0 p e s m args below meth co R Q hX H locs ls cells slots hW hS kk => ?_
  have hK := hX.2.2.2.2.2.2.1.1
  have h1 := q_at_arr (hW.2 i hi) hs
  refine W.iast hX.1 hX.2.1 h1 ((hK.2 0 _ (q_tysk dA 0 (by decide))).1 n _) (fun q => by cases q) (by rw [arrV_size]; exact hin) rfl rfl (q_dec hp) fun H1 e z oq => ?_
  refine kk H1 _ (q_W_put hW hw z oq ?_) (hS.put z oq (Nat.le_add_right _ _))
  unfold q_at
  rw [hs]
  show H1[N0 + i]? = some (arrV (dA 0) n (q_fv N0 _ i (q_ety 0)))
  rw [e, arrV_store]
  congr 2
  funext q
  by_cases hq : q = j.toNatClampNeg
  · subst hq
    simp only [updV, if_true]
    exact (q_w_self (N0 := N0) (kv := kv) hw).symm
  · simp only [updV, if_neg hq]
    exact (q_w_same hw hq _).symm
theorem G_zast {d y pc : Nat} {ll : List (Option Value)} {st : List Value} {M : qM} {r : Option Value} {M' : qM} {i n : Nat} {j : Int32} {x : Int32} (hp : q_pg y pc = some (.bastore, 1)) (hs : q_SH i = some (.inr (1, n))) (hi : i < q_n M) (hin : vp_in j n) (g : G d y (pc + 1, ll, st, q_wi M i j.toNatClampNeg (vp_nar .boolean x)) r M') : G d y (pc, ll, .int x :: .int j :: .ref i :: st, M) r M' := by
  have hw : q_w M i (q_ety 1) j.toNatClampNeg (.int (vp_nar .boolean x)) = some (q_wi M i j.toNatClampNeg (vp_nar .boolean x)) := rfl
  refine G_step1 (q_w_n hw) g fun l D dA kv N0 p e s m args below meth co R Q hX H locs ls cells slots hW hS kk => ?_
  have hK := hX.2.2.2.2.2.2.1.1
  have h1 := q_at_arr (hW.2 i hi) hs
  refine W.zast hX.1 hX.2.1 h1 ((hK.2 1 _ (q_tysk dA 1 (by decide))).1 n _) (fun q => by cases q) (by rw [arrV_size]; exact hin) rfl rfl (q_dec hp) fun H1 e z oq => ?_
  refine kk H1 _ (q_W_put hW hw z oq ?_) (hS.put z oq (Nat.le_add_right _ _))
  unfold q_at
  rw [hs]
  show H1[N0 + i]? = some (arrV (dA 1) n (q_fv N0 _ i (q_ety 1)))
  rw [e, arrV_store]
  congr 2
  funext q
  by_cases hq : q = j.toNatClampNeg
  · subst hq
    simp only [updV, if_true]
    exact (q_w_self (N0 := N0) (kv := kv) hw).symm
  · simp only [updV, if_neg hq]
    exact (q_w_same hw hq _).symm
theorem G_bast {d y pc : Nat} {ll : List (Option Value)} {st : List Value} {M : qM} {r : Option Value} {M' : qM} {i n : Nat} {j : Int32} {x : Int32} (hp : q_pg y pc = some (.bastore, 1)) (hs : q_SH i = some (.inr (2, n))) (hi : i < q_n M) (hin : vp_in j n) (g : G d y (pc + 1, ll, st, q_wi M i j.toNatClampNeg (vp_nar .byte x)) r M') : G d y (pc, ll, .int x :: .int j :: .ref i :: st, M) r M' := by
  have hw : q_w M i (q_ety 2) j.toNatClampNeg (.int (vp_nar .byte x)) = some (q_wi M i j.toNatClampNeg (vp_nar .byte x)) := rfl
  refine G_step1 (q_w_n hw) g fun l D dA kv N0 p e s m args below meth co R Q hX H locs ls cells slots hW hS kk => ?_
  have hK := hX.2.2.2.2.2.2.1.1
  have h1 := q_at_arr (hW.2 i hi) hs
  refine W.bast hX.1 hX.2.1 h1 ((hK.2 2 _ (q_tysk dA 2 (by decide))).1 n _) (fun q => by cases q) (by rw [arrV_size]; exact hin) rfl rfl (q_dec hp) fun H1 e z oq => ?_
  refine kk H1 _ (q_W_put hW hw z oq ?_) (hS.put z oq (Nat.le_add_right _ _))
  unfold q_at
  rw [hs]
  show H1[N0 + i]? = some (arrV (dA 2) n (q_fv N0 _ i (q_ety 2)))
  rw [e, arrV_store]
  congr 2
  funext q
  by_cases hq : q = j.toNatClampNeg
  · subst hq
    simp only [updV, if_true]
    exact (q_w_self (N0 := N0) (kv := kv) hw).symm
  · simp only [updV, if_neg hq]
    exact (q_w_same hw hq _).symm
theorem G_last {d y pc : Nat} {ll : List (Option Value)} {st : List Value} {M : qM} {r : Option Value} {M' : qM} {i n : Nat} {j : Int32} {x : Int64} (hp : q_pg y pc = some (.lastore, 1)) (hs : q_SH i = some (.inr (3, n))) (hi : i < q_n M) (hin : vp_in j n) (g : G d y (pc + 1, ll, st, q_wl M i j.toNatClampNeg x) r M') : G d y (pc, ll, .long x :: .int j :: .ref i :: st, M) r M' := by
  have hw : q_w M i (q_ety 3) j.toNatClampNeg (.long x) = some (q_wl M i j.toNatClampNeg x) := rfl
  refine G_step1 (q_w_n hw) g fun l D dA kv N0 p e s m args below meth co R Q hX H locs ls cells slots hW hS kk => ?_
  have hK := hX.2.2.2.2.2.2.1.1
  have h1 := q_at_arr (hW.2 i hi) hs
  refine W.last hX.1 hX.2.1 h1 ((hK.2 3 _ (q_tysk dA 3 (by decide))).1 n _) (fun q => by cases q) (by rw [arrV_size]; exact hin) rfl rfl (q_dec hp) fun H1 e z oq => ?_
  refine kk H1 _ (q_W_put hW hw z oq ?_) (hS.put z oq (Nat.le_add_right _ _))
  unfold q_at
  rw [hs]
  show H1[N0 + i]? = some (arrV (dA 3) n (q_fv N0 _ i (q_ety 3)))
  rw [e, arrV_store]
  congr 2
  funext q
  by_cases hq : q = j.toNatClampNeg
  · subst hq
    simp only [updV, if_true]
    exact (q_w_self (N0 := N0) (kv := kv) hw).symm
  · simp only [updV, if_neg hq]
    exact (q_w_same hw hq _).symm
theorem G_aast {d y pc : Nat} {ll : List (Option Value)} {st : List Value} {M : qM} {r : Option Value} {M' : qM} {i t n b ci : Nat} {j : Int32} (hp : q_pg y pc = some (.aastore, 1)) (hs : q_SH i = some (.inr (t, n))) (ht : 4 ≤ t ∧ t < 7) (hi : i < q_n M) (hin : vp_in j n) (hb : q_SH b = some (.inl ci)) (hbn : b < q_n M) (hc : ci < 10) (hty : q_ety t = .object (q_os ci)) (g : G d y (pc + 1, ll, st, q_wr M i j.toNatClampNeg (some b)) r M') : G d y (pc, ll, .ref b :: .int j :: .ref i :: st, M) r M' := by
  have hkd : q_kd (q_ety t) = 2 := by rw [hty]; rfl
  have hw : q_w M i (q_ety t) j.toNatClampNeg (.ref b) = some (q_wr M i j.toNatClampNeg (some b)) := by unfold q_w; rw [hkd]; rfl
  refine G_step1 (q_w_n hw) g fun l D dA kv N0 p e s m args below meth co R Q hX H locs ls cells slots hW hS kk => ?_
  have hK := hX.2.2.2.2.2.2.1.1
  have h1 := q_at_arr (hW.2 i hi) hs
  have hlt : j.toNatClampNeg < n := Nat.not_le.mp fun q => hin (Or.inr q)
  have h0 : ¬ j < 0 := fun q => hin (Or.inl q)
  obtain ⟨cellV, g1, g2, g3, -⟩ := q_at_obj (hW.2 b hbn) hb
  have hcls := (hK.1 ci _ (q_clk ci hc)).2
  have hra := (hK.2 t _ (q_tysk dA t ht.2)).2
  have hra : va_RA s (dA t) (.object (q_os ci)) := by rw [← hty]; exact hra
  obtain ⟨kA, comp, k1, k2, k3, -⟩ := hra
  have hcomp : comp = D.1 ci := Option.some.inj (k3.symm.trans hcls.1)
  subst hcomp
  obtain ⟨kC, hkC, -⟩ := hcls.2
  refine W.aast hX.1 hX.2.1 h1 (fun q h => by cases h) (fun h => by cases h) k1 k2 rfl hkC ⟨h0, by rw [arrV_size]; exact hlt⟩ g1 (fun q h => by rw [g3] at h; cases h) (by rw [g2]; exact hkC) (by rw [g2]; exact va_assign hcls) rfl rfl (q_dec hp) fun H1 e z oq => ?_
  refine kk H1 _ (q_W_put hW hw z oq ?_) (hS.put z oq (Nat.le_add_right _ _))
  unfold q_at
  rw [hs]
  show H1[N0 + i]? = some (arrV (dA t) n (q_fv N0 _ i (q_ety t)))
  rw [e, arrV_store]
  congr 2
  funext q
  by_cases hq : q = j.toNatClampNeg
  · subst hq
    simp only [updV, if_true]
    exact (q_w_self (N0 := N0) (kv := kv) hw).symm
  · simp only [updV, if_neg hq]
    exact (q_w_same hw hq _).symm
end
section
/-! ===== new cells ===== -/
theorem q_room {n0 nM nM' C : Nat} (hn : n0 ≤ nM) (hle : nM + 1 ≤ nM') (h : nM' - n0 ≤ C) : nM - n0 + 1 ≤ C := by omega
theorem q_roomS {n0 nM nM' C z : Nat} (hn : n0 ≤ nM) (hle : nM + 1 ≤ nM') (h : q_sl nM' - q_sl n0 ≤ C) (hz : q_sz nM = z) : q_sl nM - q_sl n0 + z ≤ C := by
  have h1 := q_sl_mono hn
  have h2 := q_sl_mono hle
  have h3 : q_sl (nM + 1) = q_sl nM + q_sz nM := rfl
  omega
theorem q_step_n {n0 nM : Nat} (hn : n0 ≤ nM) : nM - n0 + 1 = nM + 1 - n0 := by omega
theorem q_step_s {n0 nM z : Nat} (hn : n0 ≤ nM) (hz : q_sz nM = z) : q_sl nM - q_sl n0 + z = q_sl (nM + 1) - q_sl n0 := by
  have h1 := q_sl_mono hn
  have h3 : q_sl (nM + 1) = q_sl nM + q_sz nM := rfl
  omega
theorem q_S_new {N0 : Nat} {H0 H H1 : Heap} {locs : List Loc} (hS : va_S (q_A N0) H0 H locs) (z : H1.size = H.size + 1) (oq : ∀ q : Nat, q < H.size → H1[q]? = H[q]?) : va_S (q_A N0) H0 H1 locs :=
  ⟨Nat.le_trans hS.1 (by omega), fun x h1 h2 => (oq x (Nat.lt_of_lt_of_le h1 hS.1)).trans (hS.2.1 x h1 h2), hS.2.2⟩
theorem q_fdv0 : (List.range 10).all (fun ci => (List.range (q_nf ci)).all (fun k => decide (defaultValue (q_fty ci k) = match q_kd (q_fty ci k) with | 0 => .int 0 | 1 => .long 0 | _ => .null))) = true := by decide +kernel
theorem G_new {d y pc : Nat} {ll : List (Option Value)} {st : List Value} {M : qM} {r : Option Value} {M' : qM} {idx ci : Nat} (hp : q_pg y pc = some (.new idx, 3)) (hw : q_nw (q_on y) idx = some ci) (hs : q_SH (q_n M) = some (.inl ci)) (hle : q_n M + 1 ≤ q_n M') (g : G d y (pc + 3, ll, .ref (q_n M) :: st, q_al M) r M') : G d y (pc, ll, st, M) r M' := by
  intro l D dA kv N0 n0 p e s m args below meth co R Q hB hn H locs ls hL hW hS
  have hX := hB.1
  obtain ⟨hc, hm1, hm2, hm3⟩ := q_nw1 (q_on1 (q_ylt hp)).1 hw
  have hts := hX.2.2.2.2.1
  have hK := hX.2.2.2.2.2.2.1.1
  have hKn := hK.1 ci _ (q_clk ci hc)
  have hz : q_sz (q_n M) = q_nf ci := by unfold q_sz; rw [hs]
  refine W.newcK hX.1 hX.2.1 hX.2.2.2.1 (hts _ hm1) (hts _ hm2) (hts _ hm3) rfl (q_dec hp) (q_room hn hle hB.2.2.1.1) (q_roomS hn hle hB.2.2.1.2 hz) hKn.2.1 rfl fun H1 kC hkC e1 z1 o1 => ?_
  have hW1 : q_W D dA N0 (q_al M) H1 := by
    refine q_W_new hW z1 o1 ?_
    unfold q_at
    rw [hs]
    have e1' : H1[N0 + q_n M]? = some (blank (D.1 ci) kC) := by rw [← hW.1]; exact e1
    refine t_OB.to (u_born (q_fty ci) hts (q_lay hc) hKn hkC e1' (q_ftyk hc)) (fun k hk => ?_)
    rw [q_fv_new]
    exact of_decide_eq_true (List.all_eq_true.mp (List.all_eq_true.mp q_fdv0 ci (List.mem_range.mpr hc)) k (List.mem_range.mpr hk))
  have k := g l D dA kv N0 n0 p e s m args below meth co R Q hB (Nat.le_trans hn (Nat.le_succ _)) H1 locs ls hL hW1 (q_S_new hS z1 o1)
  have hNs : N0 + q_n M = H.size := hW.1.symm
  have k : W p l e R s m args below meth co H1 locs (q_n M + 1 - n0) (q_sl (q_n M + 1) - q_sl n0) Q (F0 m (pc + 3) ls (.ref (N0 + q_n M) :: st.map (q_cv N0 kv))) := k
  rw [hNs] at k
  exact W.cs (q_step_n hn) (q_step_s hn hz) k
theorem q_ety_lt {t : Nat} (ht : t < 4) : q_ety t = .int ∨ q_ety t = .boolean ∨ q_ety t = .byte ∨ q_ety t = .long := by
  rcases (show t = 0 ∨ t = 1 ∨ t = 2 ∨ t = 3 by omega) with rfl | rfl | rfl | rfl
  · exact Or.inl rfl
  · exact Or.inr (Or.inl rfl)
  · exact Or.inr (Or.inr (Or.inl rfl))
  · exact Or.inr (Or.inr (Or.inr rfl))
theorem G_newarr {d y pc : Nat} {ll : List (Option Value)} {st : List Value} {M : qM} {r : Option Value} {M' : qM} {aty : ArrayType} {t len : Nat} {x : Int32} (hp : q_pg y pc = some (.newarray aty, 2)) (hs : q_SH (q_n M) = some (.inr (t, len))) (ht : t < 4) (hty : newarray.typeOf aty = q_ety t) (hx : ¬ x < 0) (hl : x.toNatClampNeg = len) (hb : len ≤ 1000) (hle : q_n M + 1 ≤ q_n M') (g : G d y (pc + 2, ll, .ref (q_n M) :: st, q_al M) r M') : G d y (pc, ll, .int x :: st, M) r M' := by
  intro l D dA kv N0 n0 p e s m args below meth co R Q hB hn H locs ls hL hW hS
  have hX := hB.1
  have hts := hX.2.2.2.2.1
  have hK := hX.2.2.2.2.2.2.1.1
  have hz : q_sz (q_n M) = len := by unfold q_sz; rw [hs]
  have harr : (Cond.arrayClass (newarray.typeOf aty)).before args s = true := by
    rw [hty]
    rcases q_ety_lt ht with h | h | h | h <;> rw [h]
    · exact hts _ (q_in_TB q_ac0.1)
    · exact hts _ (q_in_TB q_ac0.2.1)
    · exact hts _ (q_in_TB q_ac0.2.2.1)
    · exact hts _ (q_in_TB q_ac0.2.2.2)
  have hbytes : len * componentBytes (newarray.typeOf aty) ≤ 536870912 := by
    have h8 : componentBytes (newarray.typeOf aty) ≤ 8 := by cases aty <;> decide
    exact Nat.le_trans (Nat.mul_le_mul hb h8) (by decide)
  refine va_newaK hX.1 hX.2.1 harr rfl (q_dec hp) rfl hx hl hbytes (q_room hn hle hB.2.2.1.1) (q_roomS hn hle hB.2.2.1.2 hz) rfl fun H1 cA e1 z1 o1 hAr hNm => ?_
  have hcA : cA = dA t := by
    have h1 := (hK.2 t _ (q_tysk dA t (by omega))).2
    rw [hty] at hNm
    rcases q_ety_lt ht with h | h | h | h <;> rw [h] at h1 hNm <;> exact Option.some.inj (hNm.symm.trans h1)
  subst hcA
  have hW1 : q_W D dA N0 (q_al M) H1 := by
    refine q_W_new hW z1 o1 ?_
    unfold q_at
    rw [hs]
    show H1[N0 + q_n M]? = some (arrV (dA t) len (q_fv N0 (q_al M) (q_n M) (q_ety t)))
    rw [← hW.1, e1, hty]
    congr 2
    funext k
    rw [q_fv_new]
    rcases q_ety_lt ht with h | h | h | h <;> rw [h] <;> rfl
  have k := g l D dA kv N0 n0 p e s m args below meth co R Q hB (Nat.le_trans hn (Nat.le_succ _)) H1 locs ls hL hW1 (q_S_new hS z1 o1)
  have hNs : N0 + q_n M = H.size := hW.1.symm
  have k : W p l e R s m args below meth co H1 locs (q_n M + 1 - n0) (q_sl (q_n M + 1) - q_sl n0) Q (F0 m (pc + 2) ls (.ref (N0 + q_n M) :: st.map (q_cv N0 kv))) := k
  rw [hNs] at k
  exact W.cs (q_step_n hn) (q_step_s hn hz) k
theorem G_anew {d y pc : Nat} {ll : List (Option Value)} {st : List Value} {M : qM} {r : Option Value} {M' : qM} {idx ci t len : Nat} {x : Int32} (hp : q_pg y pc = some (.anewarray idx, 3)) (hw : q_nw (q_on y) idx = some ci) (hs : q_SH (q_n M) = some (.inr (t, len))) (ht : 4 ≤ t ∧ t < 7) (hty : q_ety t = .object (q_os ci)) (hx : ¬ x < 0) (hl : x.toNatClampNeg = len) (hb : len ≤ 1000) (hle : q_n M + 1 ≤ q_n M') (g : G d y (pc + 3, ll, .ref (q_n M) :: st, q_al M) r M') : G d y (pc, ll, .int x :: st, M) r M' := by
  intro l D dA kv N0 n0 p e s m args below meth co R Q hB hn H locs ls hL hW hS
  have hX := hB.1
  obtain ⟨hc, hm1, -, -⟩ := q_nw1 (q_on1 (q_ylt hp)).1 hw
  have hts := hX.2.2.2.2.1
  have hK := hX.2.2.2.2.2.2.1.1
  have hz : q_sz (q_n M) = len := by unfold q_sz; rw [hs]
  have hao : va_AO (q_os ci) s := by
    have h3 := hX.2.2.2.2.2.2.1.2.2.1
    refine h3 _ ?_
    have e : ∀ C, q_ety t = .object C → C ∈ q_ao := by
      rcases (show t = 4 ∨ t = 5 ∨ t = 6 by omega) with rfl | rfl | rfl <;> (intro C h; cases h; decide)
    exact e _ hty
  subst hl
  refine W.anew hX.1 hX.2.1 hX.2.2.2.1 (hts _ hm1) (va_AO.use hao) rfl (q_dec hp) rfl hx (Nat.le_trans (Nat.mul_le_mul_right 4 hb) (by decide)) (q_room hn hle hB.2.2.1.1) (q_roomS hn hle hB.2.2.1.2 hz) fun cA kA comp f1 f2 f3 f4 => ?_
  generalize hH1 : H.push ({ cls := cA, slots := Array.replicate x.toNatClampNeg .null, vm := .none } : Cell) = H1
  have z1 : H1.size = H.size + 1 := by rw [← hH1, Array.size_push]
  have e1 : H1[H.size]? = some (arrV cA x.toNatClampNeg (fun _ => .null)) := by rw [← hH1, Array.getElem?_push_size, ← arrV_new]
  have o1 : ∀ q : Nat, q < H.size → H1[q]? = H[q]? := fun q hq => by rw [← hH1, Array.getElem?_push, if_neg (Nat.ne_of_lt hq)]
  have hcA : cA = dA t := by
    have h1 := (hK.2 t _ (q_tysk dA t ht.2)).2
    have h1 : va_RA s (dA t) (.object (q_os ci)) := by rw [← hty]; exact h1
    obtain ⟨_, _, _, _, _, h2⟩ := h1
    exact Option.some.inj (f1.symm.trans h2)
  subst hcA
  have hW1 : q_W D dA N0 (q_al M) H1 := by
    refine q_W_new hW z1 o1 ?_
    unfold q_at
    rw [hs]
    show H1[N0 + q_n M]? = some (arrV (dA t) _ (q_fv N0 (q_al M) (q_n M) (q_ety t)))
    rw [← hW.1, e1, hty]
    congr 2
    funext k
    rw [q_fv_new]
    rfl
  have k := g l D dA kv N0 n0 p e s m args below meth co R Q hB (Nat.le_trans hn (Nat.le_succ _)) H1 locs ls hL hW1 (q_S_new hS z1 o1)
  have hNs : N0 + q_n M = H.size := hW.1.symm
  have k : W p l e R s m args below meth co H1 locs (q_n M + 1 - n0) (q_sl (q_n M + 1) - q_sl n0) Q (F0 m (pc + 3) ls (.ref (N0 + q_n M) :: st.map (q_cv N0 kv))) := k
  rw [hNs] at k
  exact W.cs (q_step_n hn) (q_step_s hn hz) k
theorem G_oinit {d y pc : Nat} {ll : List (Option Value)} {st : List Value} {M : qM} {r : Option Value} {M' : qM} {x : Nat} (hp : q_pg y pc = some (.invokespecial ([5, 3, 3, 3, 3, 3, 1, 3, 1, 1].getD (q_on y) 0), 3)) (ho : q_on y < 10) (hd : 1 ≤ d) (hcat : (st.map Value.category).sum ≤ 8) (g : G d y (pc + 3, ll, st, M) r M') : G d y (pc, ll, .ref x :: st, M) r M' := by
  refine G_same g fun l D dA kv N0 p e s m args below meth co R Q hX hR H locs ls cells slots hL hW hS k => ?_
  have hts := hX.2.2.2.2.1
  have hsum : ((st.map (q_cv N0 kv)).map Value.category).sum = (st.map Value.category).sum := by
    rw [List.map_map]
    congr 1
    exact List.map_congr_left fun a _ => q_cv_cat hX.2.2.2.2.2.2.1.2.2.2.1 a
  refine W.objInit hX.1 hX.2.1 hX.2.2.2.1 (hts _ (q_in_TB (List.all_eq_true.mp q_oi0.1 _ (List.mem_range.mpr ho)))) (hts _ (q_in_TB q_oi0.2.1)) (hts _ (q_in_TB q_oi0.2.2)) rfl (by rw [hX.2.2.1]; exact hL.2.1) rfl (q_dec hp) (Nat.le_trans hd hR.1) ?_ (k ls hL)
  show 2 * 0 + ((st.map (q_cv N0 kv)).map Value.category).sum + 12 ≤ R.locals
  rw [hsum]
  have := hR.2
  omega
/-! ===== calls ===== -/
theorem q_map_app (f : Value → Value) (r : Option Value) (l : List Value) : (r.map f).toList ++ l.map f = (r.toList ++ l).map f := by cases r <;> simp
theorem q_callW {p : Program} {l : Launch} {e : Env} {R : Room} {s : State} {m : MethodId} {args : Array Value} {below : List Frame} {meth : Method} {co : Code} {H : Heap} {locs : List Loc} {cells slots mc ms : Nat} {Q : State → Prop} {D : va_G} {dA : Nat → ClassId} {kv : Nat → Value} {N0 pc : Nat} {ls : Array Slot} {st0 rest : List Value} {r1 : Option Value} {M1 : qM} {a : Array Value}
    (hr : va_Run p l e R s m args below meth co H locs cells slots mc ms (F0 m pc ls st0) rest (q_Q D dA kv N0 r1 M1 a) (q_A N0)) (hS : va_S (q_A N0) s.heap H locs)
    (kk : ∀ (H1 : Heap) (locs1 : List Loc), q_W D dA N0 M1 H1 → va_S (q_A N0) s.heap H1 locs1 → W p l e R s m args below meth co H1 locs1 (cells + mc) (slots + ms) Q (F0 m (pc + 3) ls ((r1.map (q_cv N0 kv)).toList ++ rest))) : W p l e R s m args below meth co H locs cells slots Q (F0 m pc ls st0) := by
  intro T hT X
  obtain ⟨v, st₀, t, T', L, h0, X', hL, e1, e2, ⟨hv, hw, hz, hk⟩, st⟩ := hr T hT X
  cases hv
  rw [h0] at hz hk
  obtain ⟨t2, a1, b1⟩ := kk T'.heap (locs ++ L) (by rw [e1]; exact hw)
    ⟨Nat.le_trans hS.1 (by rw [e1]; exact hz), fun q h1 h2 => by rw [e1, hk q (Nat.lt_of_lt_of_le h1 hS.1) h2]; exact hS.2.1 q h1 h2, fun q hq => by
      rcases List.mem_append.mp hq with h | h
      · exact hS.2.2 q h
      · exact hL q h⟩ T' rfl X'
  exact ⟨t2, st t2 a1, b1⟩
theorem q_blind (D : va_G) (dA : Nat → ClassId) (kv : Nat → Value) (N0 : Nat) (M : qM) (av : List Value) : FrameBlind (va_Pc av (q_P D dA kv N0 M)) := fun a U g mk h => ⟨h.1, q_F_same rfl rfl h.2.1, h.2.2⟩
theorem q_pre {D : va_G} {dA : Nat → ClassId} {kv : Nat → Value} {N0 : Nat} {M : qM} {s : State} {H : Heap} {locs : List Loc} (hF : q_F D dA kv N0 s) (hW : q_W D dA N0 M H) (hS : va_S (q_A N0) s.heap H locs) (av : List Value) : ∀ U : State, U.heap = H → s.WarmedH U.vm → va_Pc av (q_P D dA kv N0 M) av.toArray U := fun U hU hWm =>
  ⟨rfl, q_F_warm hWm (fun a h1 h2 => by rw [hU]; exact hS.2.1 a h1 h2) hF, by rw [hU]; exact hW⟩
theorem q_roomC {n0 nM n1 nM' C : Nat} (hn : n0 ≤ nM) (h1 : nM ≤ n1) (hle : n1 ≤ nM') (h : nM' - n0 ≤ C) : nM - n0 + (n1 - nM) ≤ C := by omega
theorem q_roomD {n0 nM n1 nM' C : Nat} (hn : n0 ≤ nM) (h1 : nM ≤ n1) (hle : n1 ≤ nM') (h : q_sl nM' - q_sl n0 ≤ C) : q_sl nM - q_sl n0 + (q_sl n1 - q_sl nM) ≤ C := by
  have := q_sl_mono hn
  have := q_sl_mono h1
  have := q_sl_mono hle
  omega
theorem q_stepC {n0 nM n1 : Nat} (hn : n0 ≤ nM) (h1 : nM ≤ n1) : nM - n0 + (n1 - nM) = n1 - n0 := by omega
theorem q_stepD {n0 nM n1 : Nat} (hn : n0 ≤ nM) (h1 : nM ≤ n1) : q_sl nM - q_sl n0 + (q_sl n1 - q_sl nM) = q_sl n1 - q_sl n0 := by
  have := q_sl_mono hn
  have := q_sl_mono h1
  omega
theorem q_sumc {N0 : Nat} {kv : Nat → Value} (h : ∀ k, kv k = .null ∨ ∃ a, kv k = .ref a) (st : List Value) : ((st.map (q_cv N0 kv)).map fun v => v.category).sum = (st.map Value.category).sum := by
  rw [List.map_map]
  congr 1
  exact List.map_congr_left fun a _ => q_cv_cat h a
theorem G_callV {d y pc : Nat} {ll : List (Option Value)} {M : qM} {r : Option Value} {M' : qM} {idx y2 : Nat} {b ci : Nat} {as rest : List Value} {r1 : Option Value} {M1 : qM} (hp : q_pg y pc = some (.invokevirtual idx, 3)) (hc : q_ck (q_on y) idx = some (0, y2)) (hb : q_SH b = some (.inl ci)) (hbn : b < q_n M) (hci : ci < 10) (hcls : (q_yn y2).cls = q_os ci) (hna : as.length = q_na y2) (hcat : (rest.map Value.category).sum ≤ 8) (hm : GM d y2 (.ref b :: as) M r1 M1) (hle : q_n M1 ≤ q_n M') (g : G (d + 1) y (pc + 3, ll, r1.toList ++ rest, M1) r M') : G (d + 1) y (pc, ll, as.reverse ++ .ref b :: rest, M) r M' := by
  intro l D dA kv N0 n0 p e s m args below meth co R Q hB hn H locs ls hL hW hS
  have hX := hB.1
  have hts := hX.2.2.2.2.1
  have hF := hX.2.2.2.2.2.2.1
  obtain ⟨p1, p2, p3, hw⟩ := q_cl1 (q_on1 (q_ylt hp)).1 hc
  simp only [q_clb, Bool.and_eq_true, decide_eq_true_eq] at hw
  obtain ⟨hy2, hle1, hmet⟩ := hm
  obtain ⟨m1, m2, m3, m4, m5⟩ := q_mt1 hy2
  have hroom : (q_Rm d (q_n M1 - q_n M) (q_sl (q_n M1) - q_sl (q_n M))).frames + 1 ≤ R.frames ∧ 8 + (q_ml y2 + 11) + (q_Rm d (q_n M1 - q_n M) (q_sl (q_n M1) - q_sl (q_n M))).locals ≤ R.locals := by
    have h1 := hB.2.1
    refine ⟨h1.1, ?_⟩
    show 8 + (q_ml y2 + 11) + 36 * d ≤ R.locals
    have := h1.2
    omega
  have hGd : GoodIn qTB (q_ws y2) := q_good (fun w h => h) hy2
  have hfix : CallFix p m co (q_cb y) (q_ml y) s args qTB (q_os (q_on y)) := ⟨hX.1, hX.2.1, hX.2.2.1, hX.2.2.2.1, hts⟩
  have hcw : CallW R s args (q_os (q_on y)) (q_yn y2).cls idx (q_yn y2) (q_cb y2) (q_ml y2) (q_rt y2) (q_ws y2) (q_Rm d (q_n M1 - q_n M) (q_sl (q_n M1) - q_sl (q_n M))) (q_n M1 - q_n M) (q_sl (q_n M1) - q_sl (q_n M)) (q_na y2) :=
    ⟨callB_of (q_na y2) hts hGd rfl rfl rfl (hts _ m2) (hts _ (q_inp_TB hw.2.1.1)) m3 hroom, hts _ (q_inp_TB hw.2.1.2), hts _ (q_inp_TB hw.2.2)⟩
  have hrecv : ∃ cell : Cell, H[N0 + b]? = some cell ∧ cell.vm.isStatics = false ∧ s.vm.findClass (q_yn y2).cls = some cell.cls := by
    obtain ⟨cell, g1, g2, g3, -⟩ := q_at_obj (hW.2 b hbn) hb
    exact ⟨cell, g1, by rw [g3]; rfl, by rw [g2, hcls]; exact (hF.1.1 ci _ (q_clk ci hci)).2.1⟩
  have hstk : (as.reverse ++ .ref b :: rest).map (q_cv N0 kv) = (as.map (q_cv N0 kv)).reverse ++ .ref (N0 + b) :: rest.map (q_cv N0 kv) := by simp [List.map_reverse, q_cv]
  refine q_callW (rest := rest.map (q_cv N0 kv)) (va_runV hfix (hmet l D dA kv N0) hcw ⟨q_blind D dA kv N0 M _, hrecv, q_pre hF hW hS (((.ref b :: as).map (q_cv N0 kv)))⟩ (g := F0 m pc ls ((as.reverse ++ .ref b :: rest).map (q_cv N0 kv))) rfl (by rw [List.length_map]; exact hna) hL.2.1 hstk (lv_room (by rw [q_sumc hF.2.2.2.1]; exact hcat)) (q_dec hp) ⟨q_roomC hn hle1 hle hB.2.2.1.1, q_roomD hn hle1 hle hB.2.2.1.2⟩) hS (fun H1 locs1 hW1 hS1 => ?_)
  have k := g l D dA kv N0 n0 p e s m args below meth co R Q hB (Nat.le_trans hn hle1) H1 locs1 ls hL hW1 hS1
  have k : W p l e R s m args below meth co H1 locs1 (q_n M1 - n0) (q_sl (q_n M1) - q_sl n0) Q (F0 m (pc + 3) ls ((r1.toList ++ rest).map (q_cv N0 kv))) := k
  rw [← q_map_app] at k
  exact W.cs (q_stepC hn hle1) (q_stepD hn hle1) k
theorem G_callS {d y pc : Nat} {ll : List (Option Value)} {M : qM} {r : Option Value} {M' : qM} {idx y2 : Nat}  {as rest : List Value} {r1 : Option Value} {M1 : qM} (hp : q_pg y pc = some (.invokestatic idx, 3)) (hc : q_ck (q_on y) idx = some (1, y2))  (hna : as.length = q_na y2) (hcat : (rest.map Value.category).sum ≤ 8) (hm : GM d y2 (as) M r1 M1) (hle : q_n M1 ≤ q_n M') (g : G (d + 1) y (pc + 3, ll, r1.toList ++ rest, M1) r M') : G (d + 1) y (pc, ll, as.reverse ++ rest, M) r M' := by
  intro l D dA kv N0 n0 p e s m args below meth co R Q hB hn H locs ls hL hW hS
  have hX := hB.1
  have hts := hX.2.2.2.2.1
  have hF := hX.2.2.2.2.2.2.1
  obtain ⟨p1, p2, p3, hw⟩ := q_cl1 (q_on1 (q_ylt hp)).1 hc
  simp only [q_clb, Bool.and_eq_true, decide_eq_true_eq] at hw
  obtain ⟨hy2, hle1, hmet⟩ := hm
  obtain ⟨m1, m2, m3, m4, m5⟩ := q_mt1 hy2
  have hroom : (q_Rm d (q_n M1 - q_n M) (q_sl (q_n M1) - q_sl (q_n M))).frames + 1 ≤ R.frames ∧ 8 + (q_ml y2 + 11) + (q_Rm d (q_n M1 - q_n M) (q_sl (q_n M1) - q_sl (q_n M))).locals ≤ R.locals := by
    have h1 := hB.2.1
    refine ⟨h1.1, ?_⟩
    show 8 + (q_ml y2 + 11) + 36 * d ≤ R.locals
    have := h1.2
    omega
  have hGd : GoodIn qTB (q_ws y2) := q_good (fun w h => h) hy2
  have hfix : CallFix p m co (q_cb y) (q_ml y) s args qTB (q_os (q_on y)) := ⟨hX.1, hX.2.1, hX.2.2.1, hX.2.2.2.1, hts⟩
  have hcw : CallB R s args (q_os (q_on y)) idx (q_yn y2) (q_cb y2) (q_ml y2) (q_rt y2) (q_ws y2) (q_Rm d (q_n M1 - q_n M) (q_sl (q_n M1) - q_sl (q_n M))) (q_n M1 - q_n M) (q_sl (q_n M1) - q_sl (q_n M)) (q_na y2) ∧ (Cond.static (q_yn y2)).before args s = true :=
    ⟨callB_of (q_na y2) hts hGd rfl rfl rfl (hts _ m2) (hts _ (q_inp_TB hw.2.1)) m3 hroom, hts _ (q_inp_TB hw.2.2)⟩
  have hstk : (as.reverse ++ rest).map (q_cv N0 kv) = (as.map (q_cv N0 kv)).reverse ++ rest.map (q_cv N0 kv) := by simp [List.map_reverse, q_cv]
  refine q_callW (rest := rest.map (q_cv N0 kv)) (va_runS hfix (hmet l D dA kv N0) hcw ⟨q_blind D dA kv N0 M _, q_pre hF hW hS (as.map (q_cv N0 kv))⟩ (g := F0 m pc ls ((as.reverse ++ rest).map (q_cv N0 kv))) rfl (by rw [List.length_map]; exact hna) hL.2.1 hstk (lv_room (by rw [q_sumc hF.2.2.2.1]; exact hcat)) (q_dec hp) ⟨q_roomC hn hle1 hle hB.2.2.1.1, q_roomD hn hle1 hle hB.2.2.1.2⟩) hS (fun H1 locs1 hW1 hS1 => ?_)
  have k := g l D dA kv N0 n0 p e s m args below meth co R Q hB (Nat.le_trans hn hle1) H1 locs1 ls hL hW1 hS1
  have k : W p l e R s m args below meth co H1 locs1 (q_n M1 - n0) (q_sl (q_n M1) - q_sl n0) Q (F0 m (pc + 3) ls ((r1.toList ++ rest).map (q_cv N0 kv))) := k
  rw [← q_map_app] at k
  exact W.cs (q_stepC hn hle1) (q_stepD hn hle1) k
theorem G_callI {d y pc : Nat} {ll : List (Option Value)} {M : qM} {r : Option Value} {M' : qM} {idx y2 : Nat} {b : Nat} {as rest : List Value} {r1 : Option Value} {M1 : qM} (hp : q_pg y pc = some (.invokespecial idx, 3)) (hc : q_ck (q_on y) idx = some (2, y2))  (hna : as.length = q_na y2) (hcat : (rest.map Value.category).sum ≤ 8) (hm : GM d y2 (.ref b :: as) M r1 M1) (hle : q_n M1 ≤ q_n M') (g : G (d + 1) y (pc + 3, ll, r1.toList ++ rest, M1) r M') : G (d + 1) y (pc, ll, as.reverse ++ .ref b :: rest, M) r M' := by
  intro l D dA kv N0 n0 p e s m args below meth co R Q hB hn H locs ls hL hW hS
  have hX := hB.1
  have hts := hX.2.2.2.2.1
  have hF := hX.2.2.2.2.2.2.1
  obtain ⟨p1, p2, p3, hw⟩ := q_cl1 (q_on1 (q_ylt hp)).1 hc
  simp only [q_clb, Bool.and_eq_true, decide_eq_true_eq] at hw
  obtain ⟨hy2, hle1, hmet⟩ := hm
  obtain ⟨m1, m2, m3, m4, m5⟩ := q_mt1 hy2
  have hroom : (q_Rm d (q_n M1 - q_n M) (q_sl (q_n M1) - q_sl (q_n M))).frames + 1 ≤ R.frames ∧ 8 + (q_ml y2 + 11) + (q_Rm d (q_n M1 - q_n M) (q_sl (q_n M1) - q_sl (q_n M))).locals ≤ R.locals := by
    have h1 := hB.2.1
    refine ⟨h1.1, ?_⟩
    show 8 + (q_ml y2 + 11) + 36 * d ≤ R.locals
    have := h1.2
    omega
  have hGd : GoodIn qTB (q_ws y2) := q_good (fun w h => h) hy2
  have hfix : CallFix p m co (q_cb y) (q_ml y) s args qTB (q_os (q_on y)) := ⟨hX.1, hX.2.1, hX.2.2.1, hX.2.2.2.1, hts⟩
  have hcw : CallB R s args (q_os (q_on y)) idx (q_yn y2) (q_cb y2) (q_ml y2) none (q_ws y2) (q_Rm d (q_n M1 - q_n M) (q_sl (q_n M1) - q_sl (q_n M))) (q_n M1 - q_n M) (q_sl (q_n M1) - q_sl (q_n M)) (q_na y2) ∧ (q_yn y2).name = "<init>" ∧ (Cond.instanceMethod (q_yn y2)).before args s = true :=
    ⟨callB_of (q_na y2) hts hGd (by rw [← hw.2.2]; rfl) rfl rfl (hts _ m2) (hts _ (q_inp_TB hw.2.1.1.1)) m3 hroom, hw.2.1.2, hts _ (q_inp_TB hw.2.1.1.2)⟩
  have hstk : (as.reverse ++ .ref b :: rest).map (q_cv N0 kv) = (as.map (q_cv N0 kv)).reverse ++ .ref (N0 + b) :: rest.map (q_cv N0 kv) := by simp [List.map_reverse, q_cv]
  refine q_callW (rest := rest.map (q_cv N0 kv)) (va_runI hfix (hmet l D dA kv N0) hcw ⟨q_blind D dA kv N0 M _, q_pre hF hW hS ((.ref b :: as).map (q_cv N0 kv))⟩ (g := F0 m pc ls ((as.reverse ++ .ref b :: rest).map (q_cv N0 kv))) rfl (by rw [List.length_map]; exact hna) hL.2.1 hstk (lv_room (by rw [q_sumc hF.2.2.2.1]; exact hcat)) (q_dec hp) ⟨q_roomC hn hle1 hle hB.2.2.1.1, q_roomD hn hle1 hle hB.2.2.1.2⟩) hS (fun H1 locs1 hW1 hS1 => ?_)
  have k := g l D dA kv N0 n0 p e s m args below meth co R Q hB (Nat.le_trans hn hle1) H1 locs1 ls hL hW1 hS1
  have k : W p l e R s m args below meth co H1 locs1 (q_n M1 - n0) (q_sl (q_n M1) - q_sl n0) Q (F0 m (pc + 3) ls ((r1.toList ++ rest).map (q_cv N0 kv))) := k
  rw [← q_map_app] at k
  exact W.cs (q_stepC hn hle1) (q_stepD hn hle1) k
theorem G_callN {d y pc : Nat} {ll : List (Option Value)} {M : qM} {r : Option Value} {M' : qM} {idx y2 : Nat} {b : Nat} {as rest : List Value} {r1 : Option Value} {M1 : qM} (hp : q_pg y pc = some (.invokespecial idx, 3)) (hc : q_ck (q_on y) idx = some (3, y2))  (hna : as.length = q_na y2) (hcat : (rest.map Value.category).sum ≤ 8) (hm : GM d y2 (.ref b :: as) M r1 M1) (hle : q_n M1 ≤ q_n M') (g : G (d + 1) y (pc + 3, ll, r1.toList ++ rest, M1) r M') : G (d + 1) y (pc, ll, as.reverse ++ .ref b :: rest, M) r M' := by
  intro l D dA kv N0 n0 p e s m args below meth co R Q hB hn H locs ls hL hW hS
  have hX := hB.1
  have hts := hX.2.2.2.2.1
  have hF := hX.2.2.2.2.2.2.1
  obtain ⟨p1, p2, p3, hw⟩ := q_cl1 (q_on1 (q_ylt hp)).1 hc
  simp only [q_clb, Bool.and_eq_true, decide_eq_true_eq] at hw
  obtain ⟨hy2, hle1, hmet⟩ := hm
  obtain ⟨m1, m2, m3, m4, m5⟩ := q_mt1 hy2
  have hroom : (q_Rm d (q_n M1 - q_n M) (q_sl (q_n M1) - q_sl (q_n M))).frames + 1 ≤ R.frames ∧ 8 + (q_ml y2 + 11) + (q_Rm d (q_n M1 - q_n M) (q_sl (q_n M1) - q_sl (q_n M))).locals ≤ R.locals := by
    have h1 := hB.2.1
    refine ⟨h1.1, ?_⟩
    show 8 + (q_ml y2 + 11) + 36 * d ≤ R.locals
    have := h1.2
    omega
  have hGd : GoodIn qTB (q_ws y2) := q_good (fun w h => h) hy2
  have hfix : CallFix p m co (q_cb y) (q_ml y) s args qTB (q_os (q_on y)) := ⟨hX.1, hX.2.1, hX.2.2.1, hX.2.2.2.1, hts⟩
  have hcw : va_CN R s args (q_os (q_on y)) idx (q_yn y2) RX8 (q_cb y2) (q_ml y2) none (q_ws y2) (q_Rm d (q_n M1 - q_n M) (q_sl (q_n M1) - q_sl (q_n M))) (q_n M1 - q_n M) (q_sl (q_n M1) - q_sl (q_n M)) (q_na y2) ∧ (q_yn y2).name = "<init>" ∧ (Cond.instanceMethod (q_yn y2)).before args s = true :=
    ⟨va_cnB (q_na y2) hts hGd (by rw [← hw.2.2]; rfl) rfl rfl (hF.2.1 _ (List.mem_of_getElem? hw.2.1.1.1)) (hts _ m2) m3 hroom, hw.2.1.2, hts _ (q_inp_TB hw.2.1.1.2)⟩
  have hstk : (as.reverse ++ .ref b :: rest).map (q_cv N0 kv) = (as.map (q_cv N0 kv)).reverse ++ .ref (N0 + b) :: rest.map (q_cv N0 kv) := by simp [List.map_reverse, q_cv]
  refine q_callW (rest := rest.map (q_cv N0 kv)) (va_runIN hfix (hmet l D dA kv N0) hcw ⟨q_blind D dA kv N0 M _, q_pre hF hW hS ((.ref b :: as).map (q_cv N0 kv))⟩ (g := F0 m pc ls ((as.reverse ++ .ref b :: rest).map (q_cv N0 kv))) rfl (by rw [List.length_map]; exact hna) hL.2.1 hstk (lv_room (by rw [q_sumc hF.2.2.2.1]; exact hcat)) (q_dec hp) ⟨q_roomC hn hle1 hle hB.2.2.1.1, q_roomD hn hle1 hle hB.2.2.1.2⟩) hS (fun H1 locs1 hW1 hS1 => ?_)
  have k := g l D dA kv N0 n0 p e s m args below meth co R Q hB (Nat.le_trans hn hle1) H1 locs1 ls hL hW1 hS1
  have k : W p l e R s m args below meth co H1 locs1 (q_n M1 - n0) (q_sl (q_n M1) - q_sl n0) Q (F0 m (pc + 3) ls ((r1.toList ++ rest).map (q_cv N0 kv))) := k
  rw [← q_map_app] at k
  exact W.cs (q_stepC hn hle1) (q_stepD hn hle1) k
/-! ===== ends, contracts ===== -/
theorem G_end {d y pc : Nat} {ll : List (Option Value)} {r : Option Value} {M' : qM} (hp : q_pg y pc = some (q_ri (q_rt y), 1)) : G d y (pc, ll, r.toList, M') r M' := by
  intro l D dA kv N0 n0 p e s m args below meth co R Q hB hn H locs ls hL hW hS
  have h := hB.2.2.2 pc H locs ls (q_dec hp) hW hS
  have e : (r.map (q_cv N0 kv)).toList = r.toList.map (q_cv N0 kv) := by cases r <;> rfl
  rw [e] at h
  exact h
theorem G_iret {d y pc : Nat} {ll : List (Option Value)} {v : Int32} {r : Option Value} {M M' : qM} (hp : q_pg y pc = some (.ireturn, 1)) (hri : q_ri (q_rt y) = .ireturn) (hr : some (.int v) = r) (hM : M = M') : G d y (pc, ll, [.int v], M) r M' := by
  subst hr; subst hM
  exact G_end (r := some (.int v)) (by rw [hri]; exact hp)
theorem G_lret {d y pc : Nat} {ll : List (Option Value)} {v : Int64} {r : Option Value} {M M' : qM} (hp : q_pg y pc = some (.lreturn, 1)) (hri : q_ri (q_rt y) = .lreturn) (hr : some (.long v) = r) (hM : M = M') : G d y (pc, ll, [.long v], M) r M' := by
  subst hr; subst hM
  exact G_end (r := some (.long v)) (by rw [hri]; exact hp)
theorem G_aret {d y pc : Nat} {ll : List (Option Value)} {v : Value} {r : Option Value} {M M' : qM} (hp : q_pg y pc = some (.areturn, 1)) (hri : q_ri (q_rt y) = .areturn) (hr : some v = r) (hM : M = M') : G d y (pc, ll, [v], M) r M' := by
  subst hr; subst hM
  exact G_end (r := some v) (by rw [hri]; exact hp)
theorem G_ret {d y pc : Nat} {ll : List (Option Value)} {r : Option Value} {M M' : qM} (hp : q_pg y pc = some (.return_, 1)) (hri : q_ri (q_rt y) = .return_) (hr : none = r) (hM : M = M') : G d y (pc, ll, [], M) r M' := by
  subst hr; subst hM
  exact G_end (r := none) (by rw [hri]; exact hp)
def q_rok (rt : Option FieldType) (r : Option Value) : Prop := match rt, r with
  | none, none => True
  | some .long, some (.long _) => True
  | some (.object _), some v => q_isr v = true
  | some .int, some (.int _) => True
  | some .boolean, some (.int v) => narrow .boolean (.int v) = .int v
  | some .byte, some (.int v) => narrow .byte (.int v) = .int v
  | some .char, some (.int v) => narrow .char (.int v) = .int v
  | _, _ => False
theorem q_en_len : ∀ (vs : List Value) (N0 : Nat) (kv : Nat → Value), (∀ k, kv k = .null ∨ ∃ a, kv k = .ref a) → (lg_sl (vs.map (q_cv N0 kv))).length = (q_en vs).length
  | [], _, _, _ => rfl
  | v :: t, N0, kv, h => by
    have ih := q_en_len t N0 kv h
    have hc := q_cv_cat (N0 := N0) h v
    rw [List.map_cons]
    unfold lg_sl at ih ⊢
    rw [List.flatMap_cons, List.length_append, ih, hc]
    cases v <;> simp [q_en, Value.category] <;> omega
theorem q_en_args (cv : Value → Value) (hcv : ∀ v, (cv v).category = v.category) : ∀ (vs : List Value) (i n : Nat), ∀ q ∈ q_as cv i (q_en vs ++ List.replicate n none), q ∈ lv_args i (vs.map cv)
  | [], i, n, q, h => by
    have : ∀ (n i : Nat), q_as cv i (List.replicate n none) = [] := by
      intro n
      induction n with
      | zero => intro i; rfl
      | succ n ih => intro i; rw [List.replicate_succ]; exact ih (i + 1)
    have h : q ∈ q_as cv i (List.replicate n none) := h
    rw [this] at h
    cases h
  | v :: t, i, n, q, h => by
    have h2 := q_en_args cv hcv t
    have hc := hcv v
    rw [List.map_cons]
    unfold lv_args
    rw [hc]
    cases v with
    | long x =>
      have h : q ∈ (i, cv (.long x)) :: q_as cv (i + 1 + 1) (q_en t ++ List.replicate n none) := h
      rcases List.mem_cons.mp h with h | h
      · rw [h]; exact List.mem_cons_self
      · exact List.mem_cons_of_mem _ (h2 (i + 2) n q h)
    | double x =>
      have h : q ∈ (i, cv (.double x)) :: q_as cv (i + 1 + 1) (q_en t ++ List.replicate n none) := h
      rcases List.mem_cons.mp h with h | h
      · rw [h]; exact List.mem_cons_self
      · exact List.mem_cons_of_mem _ (h2 (i + 2) n q h)
    | _ =>
      rcases List.mem_cons.mp h with h | h
      · rw [h]; exact List.mem_cons_self
      · exact List.mem_cons_of_mem _ (h2 (i + 1) n q h)
theorem q_ofW {l : Launch} {y : MethodName} {ws ws' : List Cond} {rm : Room} {Pc : Array Value → State → Prop} {Qc : Array Value → State → Outcome → State → Prop} {mc ms : Nat} {free : Addr → Prop} {cc : ByteArray} {maxL : Nat} {ret : Option FieldType}
    (hy : plainFor y = true) (hw : ws = Cond.code y cc maxL ret :: ws')
    (body : ∀ p e s m args below meth c s₁, BodyLoose p l y (headSpec ws rm) cc maxL ret e s m args below meth c s₁ → c.maxLocals = maxL → Pc args s →
      W p l e (headSpec ws rm).room s m args below meth c s.heap [] 0 0 (MQ below Qc args s mc ms free) (entryFrame m args maxL)) : Met l y ws rm Pc Qc mc ms free := by
  refine MetFree.of_bodySF (code := cc) (maxLocals := maxL) (ret := ret) hy ?_ ?_
  · intro args s m h hn
    obtain ⟨meth, c, h1, h2, h3, h4, h5, h6, -, -⟩ := Cond.code_spec hn (atoms_spec (ws := ws) h _ (by rw [hw]; exact List.mem_cons_self))
    exact ⟨meth, c, h1, h2, h3, h4, h5, h6⟩
  · intro p e s m args below meth c s₁ B hml hP _
    have hh0 : s₁.heap = s.heap := by rw [B.state]; rfl
    obtain ⟨t, a1, o, b1, b2, b3⟩ := body p e s m args below meth c s₁ B hml hP s₁ hh0 (Stand.of_body B)
    exact ⟨t, o, a1, b1, b2, ⟨b3.1, b3.2⟩⟩
theorem GM_of {d y : Nat} {av : List Value} {M : qM} {r : Option Value} {M' : qM} (hy : y < 161) (hle : q_n M ≤ q_n M') (hlen : (q_en av).length ≤ q_ml y) (hr : q_rok (q_rt y) r) (g : G d y (0, q_e0 (q_ml y) av, [], M) r M') : GM d y av M r M' := by
  refine ⟨hy, hle, fun l D dA kv N0 => ?_⟩
  obtain ⟨m1, m2, m3, m4, m5⟩ := q_mt1 hy
  refine q_ofW (cc := q_cb y) (maxL := q_ml y) (ret := q_rt y) m4 rfl ?_
  intro p e s m args below meth co s₁ B hml hv
  obtain ⟨rfl, hF, hW⟩ := hv
  have hts : ∀ w ∈ q_ws y, w.before ((av.map (q_cv N0 kv)).toArray) s = true := atoms_spec (ws := q_ws y) B.pre
  have hown : s.vm.findClass (q_yn y).cls = some m.cls := findClass_of_methodNamed B.named
  have hX : q_X D dA kv N0 y p s m ((av.map (q_cv N0 kv)).toArray) meth co := ⟨B.exec, B.bytes, hml, by rw [← (q_on1 (by omega)).2]; exact hown, fun w hw => hts w (List.mem_cons_of_mem _ hw), (name_of_methodNamed B.named B.method).1, hF, by rw [hW.1]; omega⟩
  have hlocks := B.notSynchronized
  have hS : va_S (q_A N0) s.heap s.heap [] := va_S.rf
  rw [lg_entry_eq]
  have hl := lv_entry (av.map (q_cv N0 kv)) (n := q_ml y) (by rw [q_en_len av N0 kv hF.2.2.2.1]; exact hlen)
  generalize ((lg_sl (av.map (q_cv N0 kv)) ++ List.replicate (q_ml y - (lg_sl (av.map (q_cv N0 kv))).length) Slot.unset).toArray) = ls at hl ⊢
  have hL : q_L (q_cv N0 kv) (q_ml y) ls (q_e0 (q_ml y) av) := by
    refine ⟨?_, q_has_sub hl (q_en_args (q_cv N0 kv) (q_cv_cat hF.2.2.2.1) av 0 _)⟩
    unfold q_e0
    rw [List.length_append, List.length_replicate]
    omega
  refine W.cs (Nat.sub_self (q_n M)).symm (Nat.sub_self (q_sl (q_n M))).symm ?_
  refine g l D dA kv N0 (q_n M) p e s m _ below meth co _ _ ⟨hX, ⟨Nat.le_refl _, Nat.le_refl _⟩, ⟨Nat.le_refl _, Nat.le_refl _⟩, ?_⟩ (Nat.le_refl _) s.heap [] ls hL hW hS
  intro pc H locs ls2 hd hW2 hS2
  have hrt := B.returns
  generalize q_rt y = rt at hr hd hrt
  unfold q_rok at hr
  split at hr
  · exact W.vret B.exec B.bytes hrt (fun t ht _ => ⟨rfl, by rw [ht]; exact hW2, hS2.F ht⟩) hS2.2.2 hd
  · exact W.lret B.exec B.bytes hrt (fun t ht _ => ⟨rfl, by rw [ht]; exact hW2, hS2.F ht⟩) hS2.2.2 hd
  · exact W.aret B.exec B.bytes hrt (Or.inl ⟨_, rfl⟩) (q_cv_rf hF.2.2.2.1 (q_isr_or hr)) (fun t ht _ => ⟨rfl, by rw [ht]; exact hW2, hS2.F ht⟩) hS2.2.2 hd
  · exact W.iret B.exec B.bytes hrt (fun t ht _ => ⟨rfl, by rw [ht]; exact hW2, hS2.F ht⟩) hS2.2.2 hd
  · exact W.zret B.exec B.bytes hrt hr (fun t ht _ => ⟨rfl, by rw [ht]; exact hW2, hS2.F ht⟩) hS2.2.2 hd
  · exact W.zret B.exec B.bytes hrt hr (fun t ht _ => ⟨rfl, by rw [ht]; exact hW2, hS2.F ht⟩) hS2.2.2 hd
  · exact W.zret B.exec B.bytes hrt hr (fun t ht _ => ⟨rfl, by rw [ht]; exact hW2, hS2.F ht⟩) hS2.2.2 hd
  · exact absurd hr id
end
section
/-! ===== plain instructions as a function; blocks of them ===== -/
def q_isI : Value → Bool
  | .int _ => true
  | _ => false
def q_isJ : Value → Bool
  | .long _ => true
  | _ => false
def q_eL (k : Nat) (c : qC) (i : Nat) (ok : Value → Bool) : Option qC := match c.2.1[i]? with
  | some (some v) => cond (ok v) (some (c.1 + k, c.2.1, v :: c.2.2.1, c.2.2.2)) none
  | _ => none
def q_eS (k : Nat) (c : qC) (i : Nat) (ok : Value → Bool) : Option qC := match c.2.2.1 with
  | v :: st => cond (ok v && Nat.ble (i + 1) c.2.1.length) (some (c.1 + k, q_s1 c.2.1 i v, st, c.2.2.2)) none
  | [] => none
def q_eT (k : Nat) (c : qC) (i : Nat) : Option qC := match c.2.2.1 with
  | v :: st => cond (q_isJ v && Nat.ble (i + 2) c.2.1.length) (some (c.1 + k, q_s2 c.2.1 i v, st, c.2.2.2)) none
  | [] => none
def q_e2 (c : qC) (f : Int32 → Int32 → Int32) : Option qC := match c.2.2.1 with
  | .int b :: .int a :: st => some (c.1 + 1, c.2.1, .int (f a b) :: st, c.2.2.2)
  | _ => none
def q_e2L (c : qC) (f : Int64 → Int64 → Int64) : Option qC := match c.2.2.1 with
  | .long b :: .long a :: st => some (c.1 + 1, c.2.1, .long (f a b) :: st, c.2.2.2)
  | _ => none
def q_eSh (c : qC) (f : Int64 → Int32 → Int64) : Option qC := match c.2.2.1 with
  | .int b :: .long a :: st => some (c.1 + 1, c.2.1, .long (f a b) :: st, c.2.2.2)
  | _ => none
def q_eI (c : qC) (f : Int32 → Value) : Option qC := match c.2.2.1 with
  | .int a :: st => some (c.1 + 1, c.2.1, f a :: st, c.2.2.2)
  | _ => none
def q_eJ (c : qC) (f : Int64 → Value) : Option qC := match c.2.2.1 with
  | .long a :: st => some (c.1 + 1, c.2.1, f a :: st, c.2.2.2)
  | _ => none
def q_eC (c : qC) : Option qC := match c.2.2.1 with
  | .long b :: .long a :: st => some (c.1 + 1, c.2.1, .int (lg_cmp a b) :: st, c.2.2.2)
  | _ => none
def q_eD (c : qC) : Option qC := match c.2.2.1 with
  | v :: st => cond (Nat.beq v.category 1) (some (c.1 + 1, c.2.1, v :: v :: st, c.2.2.2)) none
  | _ => none
def q_eP (c : qC) : Option qC := match c.2.2.1 with
  | v :: st => cond (Nat.beq v.category 1) (some (c.1 + 1, c.2.1, st, c.2.2.2)) none
  | _ => none
def q_eD2 (c : qC) : Option qC := match c.2.2.1 with
  | v :: w :: st => cond (Nat.beq v.category 1 && Nat.beq w.category 1) (some (c.1 + 1, c.2.1, v :: w :: v :: w :: st, c.2.2.2)) none
  | _ => none
def q_eG (c : qC) (off : Int) : Option qC := match (c.1 : Int) + off with
  | .ofNat t => some (t, c.2.1, c.2.2.1, c.2.2.2)
  | _ => none
def q_eN (c : qC) (off : Int) (b : Bool) : Option qC := match c.2.2.1 with
  | .ref _ :: st => cond b (q_eG (c.1, c.2.1, st, c.2.2.2) off) (some (c.1 + 3, c.2.1, st, c.2.2.2))
  | .null :: st => cond b (some (c.1 + 3, c.2.1, st, c.2.2.2)) (q_eG (c.1, c.2.1, st, c.2.2.2) off)
  | _ => none
def q_eF (L y : Nat) (c : qC) (idx : Nat) : Option qC := match c.2.2.1 with
  | .ref i :: st => match q_fl (q_on y) idx, q_SH i with
    | some (ci, k), some (.inl cj) => cond (Nat.beq ci cj && Nat.ble (i + 1) L) (some (c.1 + 3, c.2.1, q_av c.2.2.2 i (q_fty ci k) k :: st, c.2.2.2)) none
    | _, _ => none
  | _ => none
def q_eW (L y : Nat) (c : qC) (idx : Nat) : Option qC := match c.2.2.1 with
  | v :: .ref i :: st => match q_fl (q_on y) idx, q_SH i with
    | some (ci, k), some (.inl cj) => cond (Nat.beq ci cj && Nat.ble (i + 1) L && q_pv (q_fty ci k) v && q_pf y ci k) (match q_w c.2.2.2 i (q_fty ci k) k v with | some M1 => some (c.1 + 3, c.2.1, st, M1) | none => none) none
    | _, _ => none
  | _ => none
def q_eA (L : Nat) (c : qC) : Option qC := match c.2.2.1 with
  | .ref i :: st => match q_SH i with
    | some (.inr x) => cond (Nat.ble (i + 1) L && Nat.ble (x.1 + 1) 7) (some (c.1 + 1, c.2.1, .int (Int32.ofNat x.2) :: st, c.2.2.2)) none
    | _ => none
  | _ => none
def q_eK (y : Nat) (c : qC) (idx k : Nat) (ok : Value → Bool) : Option qC := match q_ct (q_on y) idx with
  | some v => cond (ok v) (some (c.1 + k, c.2.1, v :: c.2.2.1, c.2.2.2)) none
  | none => none
def q_eX (c : qC) (i : Nat) (n : Int) : Option qC := match c.2.1[i]? with
  | some (some (.int x)) => some (c.1 + 3, q_s1 c.2.1 i (.int (x + Int32.ofInt n)), c.2.2.1, c.2.2.2)
  | _ => none
def q_ex (L y : Nat) (ins : Instr) (c : qC) : Option qC := match ins with
  | .iconst n => some (c.1 + 1, c.2.1, .int (Int32.ofInt n) :: c.2.2.1, c.2.2.2)
  | .bipush n => some (c.1 + 2, c.2.1, .int (Int8.ofInt n).toInt32 :: c.2.2.1, c.2.2.2)
  | .sipush n => some (c.1 + 3, c.2.1, .int (Int16.ofInt n).toInt32 :: c.2.2.1, c.2.2.2)
  | .lconst n => some (c.1 + 1, c.2.1, .long (Int64.ofNat (n : Nat)) :: c.2.2.1, c.2.2.2)
  | .aconst_null => some (c.1 + 1, c.2.1, .null :: c.2.2.1, c.2.2.2)
  | .iload i => q_eL 2 c i q_isI
  | .iload_n i => q_eL 1 c (i : Nat) q_isI
  | .lload i => q_eL 2 c i q_isJ
  | .lload_n i => q_eL 1 c (i : Nat) q_isJ
  | .aload i => q_eL 2 c i q_isr
  | .aload_n i => q_eL 1 c (i : Nat) q_isr
  | .istore i => q_eS 2 c i q_isI
  | .istore_n i => q_eS 1 c (i : Nat) q_isI
  | .astore i => q_eS 2 c i q_isr
  | .astore_n i => q_eS 1 c (i : Nat) q_isr
  | .lstore i => q_eT 2 c i
  | .lstore_n i => q_eT 1 c (i : Nat)
  | .iinc i n => q_eX c i n
  | .iadd => q_e2 c (fun a b => a + b)
  | .isub => q_e2 c (fun a b => a - b)
  | .imul => q_e2 c (fun a b => a * b)
  | .iand => q_e2 c (fun a b => a &&& b)
  | .ior => q_e2 c (fun a b => a ||| b)
  | .ishl => q_e2 c (fun a b => a <<< (b &&& 31))
  | .ishr => q_e2 c (fun a b => a >>> (b &&& 31))
  | .ladd => q_e2L c (fun a b => a + b)
  | .lsub => q_e2L c (fun a b => a - b)
  | .lmul => q_e2L c (fun a b => a * b)
  | .land => q_e2L c (fun a b => a &&& b)
  | .lor => q_e2L c (fun a b => a ||| b)
  | .lxor => q_e2L c (fun a b => a ^^^ b)
  | .lshl => q_eSh c (fun a b => a <<< (b.toInt64 &&& 63))
  | .lshr => q_eSh c (fun a b => a >>> (b.toInt64 &&& 63))
  | .lushr => q_eSh c (fun a b => (a.toUInt64 >>> (b.toInt64.toUInt64 &&& Int64.toUInt64 63)).toInt64)
  | .i2l => q_eI c (fun a => .long a.toInt64)
  | .i2b => q_eI c (fun a => .int a.toInt8.toInt32)
  | .i2s => q_eI c (fun a => .int a.toInt16.toInt32)
  | .i2c => q_eI c (fun a => .int (a.toUInt32 % 65536).toInt32)
  | .l2i => q_eJ c (fun a => .int a.toInt32)
  | .lcmp => q_eC c
  | .dup => q_eD c
  | .pop => q_eP c
  | .dup2 => q_eD2 c
  | .goto off => q_eG c off
  | .ifnull off => q_eN c off false
  | .ifnonnull off => q_eN c off true
  | .getfield idx => q_eF L y c idx
  | .putfield idx => q_eW L y c idx
  | .arraylength => q_eA L c
  | .ldc idx => q_eK y c idx 2 q_isI
  | .ldc2_w idx => q_eK y c idx 3 q_isJ
  | _ => none
theorem G_eL {d y k i len : Nat} {ins : Instr} {c c2 : qC} {r : Option Value} {M' : qM} {ok : Value → Bool} (hr : ∀ v, ok v = true → c.2.1[i]? = some (some v) → G d y (c.1 + k, c.2.1, v :: c.2.2.1, c.2.2.2) r M' → G d y c r M') (h : q_eL k c i ok = some c2) (g : G d y c2 r M') : G d y c r M' := by
  unfold q_eL at h
  split at h
  · rename_i v hv
    cases ho : ok v with
    | true => rw [ho] at h; cases h; exact hr v ho hv g
    | false => rw [ho] at h; cases h
  · cases h
theorem q_isI_ok {v : Value} (h : q_isI v = true) : ∃ x, v = .int x := by cases v <;> first | exact ⟨_, rfl⟩ | cases h
theorem q_isJ_ok {v : Value} (h : q_isJ v = true) : ∃ x, v = .long x := by cases v <;> first | exact ⟨_, rfl⟩ | cases h
theorem q_bt {b : Bool} {x c2 : qC} (h : cond b (some x) none = some c2) : b = true ∧ x = c2 := by
  cases b with
  | true => exact ⟨rfl, Option.some.inj h⟩
  | false => cases h
theorem q_eG_ok {c c2 : qC} {off : Int} (h : q_eG c off = some c2) : ∃ t : Nat, (c.1 : Int) + off = (t : Int) ∧ c2 = (t, c.2.1, c.2.2.1, c.2.2.2) := by
  unfold q_eG at h
  split at h
  · rename_i t ht
    cases h
    exact ⟨t, ht, rfl⟩
  · cases h
set_option maxHeartbeats 2000000 in
theorem G_ex {L d y len : Nat} {ins : Instr} {c c2 : qC} {r : Option Value} {M' : qM} (hp : q_pg y c.1 = some (ins, len)) (hL : L ≤ q_n c.2.2.2) (h : q_ex L y ins c = some c2) (g : G d y c2 r M') : G d y c r M' := by
  obtain ⟨pc, ll, st, M⟩ := c
  have hlen := q_ilen hp
  have hp : q_pg y pc = some (ins, len) := hp
  have hL : L ≤ q_n M := hL
  unfold q_ex at h
  split at h
  · obtain rfl := hlen (by simp [q_il])
    cases h; exact G_iconst hp g
  · obtain rfl := hlen (by simp [q_il])
    cases h; exact G_bipush hp g
  · obtain rfl := hlen (by simp [q_il])
    cases h; exact G_sipush hp g
  · obtain rfl := hlen (by simp [q_il])
    cases h; exact G_lconst hp g
  · obtain rfl := hlen (by simp [q_il])
    cases h; exact G_null hp g
  · obtain rfl := hlen (by simp [q_il])
    exact G_eL (len := 0) (ins := .iadd) (fun v ho hv g => by obtain ⟨x, rfl⟩ := q_isI_ok ho; exact G_iload hp hv g) h g
  · obtain rfl := hlen (by simp [q_il])
    exact G_eL (len := 0) (ins := .iadd) (fun v ho hv g => by obtain ⟨x, rfl⟩ := q_isI_ok ho; exact G_iload_n hp hv g) h g
  · obtain rfl := hlen (by simp [q_il])
    exact G_eL (len := 0) (ins := .iadd) (fun v ho hv g => by obtain ⟨x, rfl⟩ := q_isJ_ok ho; exact G_lload hp hv g) h g
  · obtain rfl := hlen (by simp [q_il])
    exact G_eL (len := 0) (ins := .iadd) (fun v ho hv g => by obtain ⟨x, rfl⟩ := q_isJ_ok ho; exact G_lload_n hp hv g) h g
  · obtain rfl := hlen (by simp [q_il])
    exact G_eL (len := 0) (ins := .iadd) (fun v ho hv g => G_aload hp hv ho g) h g
  · obtain rfl := hlen (by simp [q_il])
    exact G_eL (len := 0) (ins := .iadd) (fun v ho hv g => G_aload_n hp hv ho g) h g
  · obtain rfl := hlen (by simp [q_il])
    unfold q_eS at h
    cases st with
    | nil => cases h
    | cons v st =>
      obtain ⟨h1, rfl⟩ := q_bt h
      rw [Bool.and_eq_true] at h1
      obtain ⟨x, rfl⟩ := q_isI_ok h1.1
      exact G_istore hp (Nat.le_of_ble_eq_true h1.2) g
  · obtain rfl := hlen (by simp [q_il])
    unfold q_eS at h
    cases st with
    | nil => cases h
    | cons v st =>
      obtain ⟨h1, rfl⟩ := q_bt h
      rw [Bool.and_eq_true] at h1
      obtain ⟨x, rfl⟩ := q_isI_ok h1.1
      exact G_istore_n hp (Nat.le_of_ble_eq_true h1.2) g
  · obtain rfl := hlen (by simp [q_il])
    unfold q_eS at h
    cases st with
    | nil => cases h
    | cons v st =>
      obtain ⟨h1, rfl⟩ := q_bt h
      rw [Bool.and_eq_true] at h1
      exact G_astore hp h1.1 (Nat.le_of_ble_eq_true h1.2) g
  · obtain rfl := hlen (by simp [q_il])
    unfold q_eS at h
    cases st with
    | nil => cases h
    | cons v st =>
      obtain ⟨h1, rfl⟩ := q_bt h
      rw [Bool.and_eq_true] at h1
      exact G_astore_n hp h1.1 (Nat.le_of_ble_eq_true h1.2) g
  · obtain rfl := hlen (by simp [q_il])
    unfold q_eT at h
    cases st with
    | nil => cases h
    | cons v st =>
      obtain ⟨h1, rfl⟩ := q_bt h
      rw [Bool.and_eq_true] at h1
      obtain ⟨x, rfl⟩ := q_isJ_ok h1.1
      exact G_lstore hp (Nat.le_of_ble_eq_true h1.2) g
  · obtain rfl := hlen (by simp [q_il])
    unfold q_eT at h
    cases st with
    | nil => cases h
    | cons v st =>
      obtain ⟨h1, rfl⟩ := q_bt h
      rw [Bool.and_eq_true] at h1
      obtain ⟨x, rfl⟩ := q_isJ_ok h1.1
      exact G_lstore_n hp (Nat.le_of_ble_eq_true h1.2) g
  · obtain rfl := hlen (by simp [q_il])
    unfold q_eX at h
    split at h
    · rename_i x hx
      cases h
      exact G_iinc hp hx g
    · cases h
  · obtain rfl := hlen (by simp [q_il])
    unfold q_e2 at h
    split at h
    · rename_i hst
      cases h
      have hst : st = _ := hst
      subst hst
      exact G_iadd hp g
    · cases h
  · obtain rfl := hlen (by simp [q_il])
    unfold q_e2 at h
    split at h
    · rename_i hst
      cases h
      have hst : st = _ := hst
      subst hst
      exact G_isub hp g
    · cases h
  · obtain rfl := hlen (by simp [q_il])
    unfold q_e2 at h
    split at h
    · rename_i hst
      cases h
      have hst : st = _ := hst
      subst hst
      exact G_imul hp g
    · cases h
  · obtain rfl := hlen (by simp [q_il])
    unfold q_e2 at h
    split at h
    · rename_i hst
      cases h
      have hst : st = _ := hst
      subst hst
      exact G_iand hp g
    · cases h
  · obtain rfl := hlen (by simp [q_il])
    unfold q_e2 at h
    split at h
    · rename_i hst
      cases h
      have hst : st = _ := hst
      subst hst
      exact G_ior hp g
    · cases h
  · obtain rfl := hlen (by simp [q_il])
    unfold q_e2 at h
    split at h
    · rename_i hst
      cases h
      have hst : st = _ := hst
      subst hst
      exact G_ishl hp g
    · cases h
  · obtain rfl := hlen (by simp [q_il])
    unfold q_e2 at h
    split at h
    · rename_i hst
      cases h
      have hst : st = _ := hst
      subst hst
      exact G_ishr hp g
    · cases h
  · obtain rfl := hlen (by simp [q_il])
    unfold q_e2L at h
    split at h
    · rename_i hst
      cases h
      have hst : st = _ := hst
      subst hst
      exact G_ladd hp g
    · cases h
  · obtain rfl := hlen (by simp [q_il])
    unfold q_e2L at h
    split at h
    · rename_i hst
      cases h
      have hst : st = _ := hst
      subst hst
      exact G_lsub hp g
    · cases h
  · obtain rfl := hlen (by simp [q_il])
    unfold q_e2L at h
    split at h
    · rename_i hst
      cases h
      have hst : st = _ := hst
      subst hst
      exact G_lmul hp g
    · cases h
  · obtain rfl := hlen (by simp [q_il])
    unfold q_e2L at h
    split at h
    · rename_i hst
      cases h
      have hst : st = _ := hst
      subst hst
      exact G_land hp g
    · cases h
  · obtain rfl := hlen (by simp [q_il])
    unfold q_e2L at h
    split at h
    · rename_i hst
      cases h
      have hst : st = _ := hst
      subst hst
      exact G_lor hp g
    · cases h
  · obtain rfl := hlen (by simp [q_il])
    unfold q_e2L at h
    split at h
    · rename_i hst
      cases h
      have hst : st = _ := hst
      subst hst
      exact G_lxor hp g
    · cases h
  · obtain rfl := hlen (by simp [q_il])
    unfold q_eSh at h
    split at h
    · rename_i hst
      cases h
      have hst : st = _ := hst
      subst hst
      exact G_lshl hp g
    · cases h
  · obtain rfl := hlen (by simp [q_il])
    unfold q_eSh at h
    split at h
    · rename_i hst
      cases h
      have hst : st = _ := hst
      subst hst
      exact G_lshr hp g
    · cases h
  · obtain rfl := hlen (by simp [q_il])
    unfold q_eSh at h
    split at h
    · rename_i hst
      cases h
      have hst : st = _ := hst
      subst hst
      exact G_lushr hp g
    · cases h
  · obtain rfl := hlen (by simp [q_il])
    unfold q_eI at h
    split at h
    · rename_i hst
      cases h
      have hst : st = _ := hst
      subst hst
      exact G_i2l hp g
    · cases h
  · obtain rfl := hlen (by simp [q_il])
    unfold q_eI at h
    split at h
    · rename_i hst
      cases h
      have hst : st = _ := hst
      subst hst
      exact G_i2b hp g
    · cases h
  · obtain rfl := hlen (by simp [q_il])
    unfold q_eI at h
    split at h
    · rename_i hst
      cases h
      have hst : st = _ := hst
      subst hst
      exact G_i2s hp g
    · cases h
  · obtain rfl := hlen (by simp [q_il])
    unfold q_eI at h
    split at h
    · rename_i hst
      cases h
      have hst : st = _ := hst
      subst hst
      exact G_i2c hp g
    · cases h
  · obtain rfl := hlen (by simp [q_il])
    unfold q_eJ at h
    split at h
    · rename_i hst
      cases h
      have hst : st = _ := hst
      subst hst
      exact G_l2i hp g
    · cases h
  · obtain rfl := hlen (by simp [q_il])
    unfold q_eC at h
    split at h
    · rename_i hst
      cases h
      have hst : st = _ := hst
      subst hst
      exact G_lcmp hp g
    · cases h
  · obtain rfl := hlen (by simp [q_il])
    unfold q_eD at h
    cases st with
    | nil => cases h
    | cons v st =>
      obtain ⟨h1, rfl⟩ := q_bt h
      exact G_dup hp (Nat.eq_of_beq_eq_true h1) g
  · obtain rfl := hlen (by simp [q_il])
    unfold q_eP at h
    cases st with
    | nil => cases h
    | cons v st =>
      obtain ⟨h1, rfl⟩ := q_bt h
      exact G_pop hp (Nat.eq_of_beq_eq_true h1) g
  · obtain rfl := hlen (by simp [q_il])
    unfold q_eD2 at h
    split at h
    · rename_i v w st2 hst
      have hst : st = _ := hst
      subst hst
      obtain ⟨h1, rfl⟩ := q_bt h
      rw [Bool.and_eq_true] at h1
      exact G_dup2 hp (Nat.eq_of_beq_eq_true h1.1) (Nat.eq_of_beq_eq_true h1.2) g
    · cases h
  · obtain rfl := hlen (by simp [q_il])
    obtain ⟨t, h1, rfl⟩ := q_eG_ok h
    exact G_goto t hp h1 g
  · obtain rfl := hlen (by simp [q_il])
    unfold q_eN at h
    split at h
    · rename_i hst
      have hst : st = _ := hst
      subst hst
      cases h
      exact G_ifnull hp g
    · rename_i hst
      have hst : st = _ := hst
      subst hst
      obtain ⟨t, h1, rfl⟩ := q_eG_ok h
      exact G_ifnullN t hp h1 g
    · cases h
  · obtain rfl := hlen (by simp [q_il])
    unfold q_eN at h
    split at h
    · rename_i hst
      have hst : st = _ := hst
      subst hst
      obtain ⟨t, h1, rfl⟩ := q_eG_ok h
      exact G_ifnonnull t hp h1 g
    · rename_i hst
      have hst : st = _ := hst
      subst hst
      cases h
      exact G_ifnonnullN hp g
    · cases h
  · obtain rfl := hlen (by simp [q_il])
    unfold q_eF at h
    split at h
    · rename_i i st2 hst
      have hst : st = _ := hst
      subst hst
      split at h
      · rename_i ci k cj hf hs
        obtain ⟨h1, rfl⟩ := q_bt h
        rw [Bool.and_eq_true] at h1
        have e : ci = cj := Nat.eq_of_beq_eq_true h1.1
        subst e
        exact G_get hp hf hs (Nat.lt_of_lt_of_le (Nat.le_of_ble_eq_true h1.2) hL) g
      · cases h
    · cases h
  · obtain rfl := hlen (by simp [q_il])
    unfold q_eW at h
    split at h
    · rename_i v i st2 hst
      have hst : st = _ := hst
      subst hst
      split at h
      · rename_i ci k cj hf hs
        cases hb : (Nat.beq ci cj && Nat.ble (i + 1) L && q_pv (q_fty ci k) v && q_pf y ci k) with
        | false => rw [hb] at h; cases h
        | true =>
          rw [hb] at h
          simp only [Bool.and_eq_true] at hb
          have e : ci = cj := Nat.eq_of_beq_eq_true hb.1.1.1
          subst e
          have h : (match q_w M i (q_fty ci k) k v with | some M1 => some (pc + 3, ll, st2, M1) | none => none) = some c2 := h
          split at h
          · rename_i M1 hw
            cases h
            exact G_put hp hf hs (Nat.lt_of_lt_of_le (Nat.le_of_ble_eq_true hb.1.1.2) hL) hw hb.1.2 hb.2 g
          · cases h
      · cases h
    · cases h
  · obtain rfl := hlen (by simp [q_il])
    unfold q_eA at h
    split at h
    · rename_i i st2 hst
      have hst : st = _ := hst
      subst hst
      split at h
      · rename_i x hs
        obtain ⟨h1, rfl⟩ := q_bt h
        rw [Bool.and_eq_true] at h1
        exact G_alen (t := x.1) (n := x.2) hp hs (Nat.le_of_ble_eq_true h1.2) (Nat.lt_of_lt_of_le (Nat.le_of_ble_eq_true h1.1) hL) rfl g
      · cases h
    · cases h
  · obtain rfl := hlen (by simp [q_il])
    unfold q_eK at h
    split at h
    · rename_i v hv
      obtain ⟨h1, rfl⟩ := q_bt h
      obtain ⟨x, rfl⟩ := q_isI_ok h1
      exact G_ldc hp hv g
    · cases h
  · obtain rfl := hlen (by simp [q_il])
    unfold q_eK at h
    split at h
    · rename_i v hv
      obtain ⟨h1, rfl⟩ := q_bt h
      obtain ⟨x, rfl⟩ := q_isJ_ok h1
      exact G_ldc2 hp hv g
    · cases h
  · cases h
theorem q_ex_n {L y : Nat} {ins : Instr} {c c2 : qC} (h : q_ex L y ins c = some c2) : q_n c2.2.2.2 = q_n c.2.2.2 := by
  have cb : ∀ {b : Bool} {x : qC}, cond b (some x) none = some c2 → x = c2 := fun h => (q_bt h).2
  have hG : ∀ {c : qC} {off : Int}, q_eG c off = some c2 → q_n c2.2.2.2 = q_n c.2.2.2 := fun h => by obtain ⟨t, -, rfl⟩ := q_eG_ok h; rfl
  unfold q_ex at h
  split at h
  all_goals first
    | (cases h; done)
    | (cases h; rfl; done)
    | (unfold q_eL at h; split at h <;> first | (rw [← cb h]; done) | (cases h; done))
    | (unfold q_eS at h; split at h <;> first | (rw [← cb h]; done) | (cases h; done))
    | (unfold q_eT at h; split at h <;> first | (rw [← cb h]; done) | (cases h; done))
    | (unfold q_eX at h; split at h <;> first | (cases h; rfl; done) | (cases h; done))
    | (unfold q_e2 at h; split at h <;> first | (cases h; rfl; done) | (cases h; done))
    | (unfold q_e2L at h; split at h <;> first | (cases h; rfl; done) | (cases h; done))
    | (unfold q_eSh at h; split at h <;> first | (cases h; rfl; done) | (cases h; done))
    | (unfold q_eI at h; split at h <;> first | (cases h; rfl; done) | (cases h; done))
    | (unfold q_eJ at h; split at h <;> first | (cases h; rfl; done) | (cases h; done))
    | (unfold q_eC at h; split at h <;> first | (cases h; rfl; done) | (cases h; done))
    | (unfold q_eD at h; split at h <;> first | (rw [← cb h]; done) | (cases h; done))
    | (unfold q_eP at h; split at h <;> first | (rw [← cb h]; done) | (cases h; done))
    | (unfold q_eD2 at h; split at h <;> first | (rw [← cb h]; done) | (cases h; done))
    | exact hG h
    | (unfold q_eN at h; simp only [cond_false, cond_true] at h; split at h <;> first | (have h2 := hG h; exact h2) | (cases h; rfl; done) | (cases h; done))
    | (unfold q_eF at h; split at h <;> first | (split at h <;> first | (rw [← cb h]; done) | (cases h; done)) | (cases h; done))
    | (unfold q_eA at h; split at h <;> first | (split at h <;> first | (rw [← cb h]; done) | (cases h; done)) | (cases h; done))
    | (unfold q_eK at h; split at h <;> first | (rw [← cb h]; done) | (cases h; done))
    | skip
  unfold q_eW at h
  split at h
  · split at h
    · rename_i v i st2 hst x1 x2 ci k cj hf hs
      cases hb : (Nat.beq ci cj && Nat.ble (i + 1) L && q_pv (q_fty ci k) v && q_pf y ci k) with
      | false => rw [hb] at h; cases h
      | true =>
        rw [hb] at h
        simp only [cond_true] at h
        split at h
        · rename_i M1 hw
          cases h
          exact q_w_n hw
        · cases h
    · cases h
  · cases h
def q_sN (L : Nat) : Nat → Nat → qC → Option qC
  | 0, _, c => some c
  | k + 1, y, c => match q_pg y c.1 with
    | some x => match q_ex L y x.1 c with
      | some c2 => q_sN L k y c2
      | none => none
    | none => none
theorem G_sN {L d y : Nat} {r : Option Value} {M' : qM} : ∀ (k : Nat) (c c2 : qC), L ≤ q_n c.2.2.2 → q_sN L k y c = some c2 → G d y c2 r M' → G d y c r M'
  | 0, c, c2, _, h, g => by cases h; exact g
  | k + 1, c, c2, hL, h, g => by
    unfold q_sN at h
    split at h
    · rename_i x hx
      split at h
      · rename_i c3 hc
        obtain ⟨ins, len⟩ := x
        exact G_ex hx hL hc (G_sN k c3 c2 (by rw [q_ex_n hc]; exact hL) h g)
      · cases h
    · cases h
/-- a block of k plain instructions -/
theorem G_st {L d y k : Nat} {r : Option Value} {M' : qM} {c : qC} (c2 : qC) (hL : L ≤ q_n c.2.2.2) (h : q_sN L k y c = some c2) (g : G d y c2 r M') : G d y c r M' := G_sN k c c2 hL h g
end
section
/-! ===== constants: static rows, String constants ===== -/
def q_gs (o idx : Nat) : Option (Value × String × String × String) := match o, idx with
  | 2, 45 => some (.float 0, "SlateQuarry$LawBook", "UNTOLD", "[I")
  | 2, 52 => some (.float 1, "SlateQuarry$LawBook", "LEAST", "[I")
  | 2, 55 => some (.float 2, "SlateQuarry$LawBook", "GREATEST", "[I")
  | 12, 38 => some (.int 1, "java/lang/String", "COMPACT_STRINGS", "Z")
  | 12, 1053 => some (.float 13, "jdk/internal/util/Preconditions", "SIOOBE_FORMATTER", "Ljava/util/function/BiFunction;")
  | _, _ => none
theorem q_gs0 : q_in (.fieldLink (q_os 2) 45 "SlateQuarry$LawBook" "UNTOLD" "[I") = true ∧ q_in (.fieldLink (q_os 2) 52 "SlateQuarry$LawBook" "LEAST" "[I") = true ∧ q_in (.fieldLink (q_os 2) 55 "SlateQuarry$LawBook" "GREATEST" "[I") = true ∧ q_in (.fieldLink (q_os 12) 38 "java/lang/String" "COMPACT_STRINGS" "Z") = true ∧ q_in (.fieldLink (q_os 12) 1053 "jdk/internal/util/Preconditions" "SIOOBE_FORMATTER" "Ljava/util/function/BiFunction;") = true ∧ q_in (.fieldLink (q_os 12) 9 "java/lang/String" "value" "[B") = true ∧ q_in (.fieldLink (q_os 12) 15 "java/lang/String" "coder" "B") = true := by decide +kernel
theorem q_gs1 {o idx : Nat} {v : Value} {C n d : String} (h : q_gs o idx = some (v, C, n, d)) : Cond.fieldLink (q_os o) idx C n d ∈ qTB ∧ ∀ (kv : Nat → Value) (N0 : Nat) (A : Nat → Prop) (U : State) (H : Heap), q_KF kv A U H → va_Z C n d (q_cv N0 kv v) A U H := by
  obtain ⟨g1, g2, g3, g4, g5, -, -⟩ := q_gs0
  unfold q_gs at h
  split at h
  · cases h
    refine ⟨q_in_TB g1, fun kv N0 A U H hK => ?_⟩
    obtain ⟨t, e, hz, -⟩ := hK.1 (0, "UNTOLD", 4, [-4, -4, 0, 0]) (by decide)
    have e : kv 0 = .ref t := e
    show va_Z _ _ _ (kv 0) A U H
    rw [e]; exact hz
  · cases h
    refine ⟨q_in_TB g2, fun kv N0 A U H hK => ?_⟩
    obtain ⟨t, e, hz, -⟩ := hK.1 (1, "LEAST", 5, [0, 1, 0, 0, 0]) (by decide)
    have e : kv 1 = .ref t := e
    show va_Z _ _ _ (kv 1) A U H
    rw [e]; exact hz
  · cases h
    refine ⟨q_in_TB g3, fun kv N0 A U H hK => ?_⟩
    obtain ⟨t, e, hz, -⟩ := hK.1 (2, "GREATEST", 5, [9999, 20, 999, 100, 9]) (by decide)
    have e : kv 2 = .ref t := e
    show va_Z _ _ _ (kv 2) A U H
    rw [e]; exact hz
  · cases h
    exact ⟨q_in_TB g4, fun kv N0 A U H hK => hK.2.1⟩
  · cases h
    exact ⟨q_in_TB g5, fun kv N0 A U H hK => hK.2.2.1⟩
  · cases h
theorem G_gets {d y pc : Nat} {ll : List (Option Value)} {st : List Value} {M : qM} {r : Option Value} {M' : qM} {idx : Nat} {x : Value} {C n f : String} (hp : q_pg y pc = some (.getstatic idx, 3)) (hc : q_gs (q_on y) idx = some (x, C, n, f)) (g : G d y (pc + 3, ll, x :: st, M) r M') : G d y (pc, ll, st, M) r M' := by
  refine G_same g fun l D dA kv N0 p e s m args below meth co R Q hX hR H locs ls cells slots hL hW hS k => ?_
  obtain ⟨h1, h2⟩ := q_gs1 hc
  exact va_gets hX.1 hX.2.1 (h2 kv N0 _ _ _ hX.2.2.2.2.2.2.1.2.2.2.2) hS hX.2.2.2.1 (hX.2.2.2.2.1 _ h1) (fun _ h => h) (q_dec hp) (k ls hL)
theorem q_ks1 {idx i : Nat} {tx : String} (h : (i, idx, tx) ∈ q_ks) : i < 5 := by
  simp [q_ks] at h
  omega
theorem G_ldcS {d y pc : Nat} {ll : List (Option Value)} {st : List Value} {M : qM} {r : Option Value} {M' : qM} {idx i : Nat} {tx : String} {x : UInt32} (hp : q_pg y pc = some (.ldc idx, 2)) (ho : q_os (q_on y) = "SlateQuarry$LawBook") (hc : (i, idx, tx) ∈ q_ks) (hx : x.toNat = 3 + i) (g : G d y (pc + 2, ll, .float x :: st, M) r M') : G d y (pc, ll, st, M) r M' := by
  refine G_same g fun l D dA kv N0 p e s m args below meth co R Q hX hR H locs ls cells slots hL hW hS k => ?_
  obtain ⟨-, -, -, adK, adV, h4, h5, h6⟩ := hX.2.2.2.2.2.2.1.2.2.2.2
  have k1 := k ls hL
  have ee : q_cv N0 kv (.float x) = .ref (adK i) := by
    show kv x.toNat = _
    rw [hx]; exact (h5 i (q_ks1 hc)).1
  rw [List.map_cons, ee] at k1
  exact va_ldcS hX.1 hX.2.1 (by rw [← ho]; exact hX.2.2.2.1) (h6 _ hc) (q_dec hp) k1
theorem G_getV {d y pc : Nat} {ll : List (Option Value)} {st : List Value} {M : qM} {r : Option Value} {M' : qM} {i : Nat} {x z : UInt32} (hp : q_pg y pc = some (.getfield 9, 3)) (ho : q_on y = 12) (hi : i < 5) (hx : x.toNat = 3 + i) (hz : z.toNat = 8 + i) (g : G d y (pc + 3, ll, .float z :: st, M) r M') : G d y (pc, ll, .float x :: st, M) r M' := by
  refine G_same g fun l D dA kv N0 p e s m args below meth co R Q hX hR H locs ls cells slots hL hW hS k => ?_
  obtain ⟨-, -, -, adK, adV, h4, h5, h6⟩ := hX.2.2.2.2.2.2.1.2.2.2.2
  have k1 := k ls hL
  have ee : q_cv N0 kv (.float x) = .ref (adK i) := by
    show kv x.toNat = _
    rw [hx]; exact (h5 i hi).1
  have e2 : q_cv N0 kv (.float z) = .ref (adV i) := by
    show kv z.toNat = _
    rw [hz]; exact (h5 i hi).2
  rw [List.map_cons, e2] at k1
  show W p l e R s m args below meth co H locs cells slots Q (F0 m pc ls (q_cv N0 kv (.float x) :: st.map (q_cv N0 kv)))
  rw [ee]
  exact vk_getf hX.1 hX.2.1 (h4.1 i hi).2.2.1 hS hX.2.2.2.1 (hX.2.2.2.2.1 _ (by rw [ho]; exact q_in_TB q_gs0.2.2.2.2.2.1)) (fun _ h => h) (q_dec hp) k1
theorem G_getC {d y pc : Nat} {ll : List (Option Value)} {st : List Value} {M : qM} {r : Option Value} {M' : qM} {i : Nat} {x : UInt32} (hp : q_pg y pc = some (.getfield 15, 3)) (ho : q_on y = 12) (hi : i < 5) (hx : x.toNat = 3 + i) (g : G d y (pc + 3, ll, .int 0 :: st, M) r M') : G d y (pc, ll, .float x :: st, M) r M' := by
  refine G_same g fun l D dA kv N0 p e s m args below meth co R Q hX hR H locs ls cells slots hL hW hS k => ?_
  obtain ⟨-, -, -, adK, adV, h4, h5, h6⟩ := hX.2.2.2.2.2.2.1.2.2.2.2
  have ee : q_cv N0 kv (.float x) = .ref (adK i) := by
    show kv x.toNat = _
    rw [hx]; exact (h5 i hi).1
  show W p l e R s m args below meth co H locs cells slots Q (F0 m pc ls (q_cv N0 kv (.float x) :: st.map (q_cv N0 kv)))
  rw [ee]
  exact vk_getf hX.1 hX.2.1 (h4.1 i hi).2.1 hS hX.2.2.2.1 (hX.2.2.2.2.1 _ (by rw [ho]; exact q_in_TB q_gs0.2.2.2.2.2.2)) (fun _ h => h) (q_dec hp) (k ls hL)
theorem G_alenK {d y pc : Nat} {ll : List (Option Value)} {st : List Value} {M : qM} {r : Option Value} {M' : qM} {i : Nat} {x : UInt32} {n : Int32} (hp : q_pg y pc = some (.arraylength, 1)) (hi : i < 5) (hx : x.toNat = 8 + i) (hn : Int32.ofNat (q_sln.getD i 0) = n) (g : G d y (pc + 1, ll, .int n :: st, M) r M') : G d y (pc, ll, .float x :: st, M) r M' := by
  refine G_same g fun l D dA kv N0 p e s m args below meth co R Q hX hR H locs ls cells slots hL hW hS k => ?_
  obtain ⟨-, -, -, adK, adV, h4, h5, h6⟩ := hX.2.2.2.2.2.2.1.2.2.2.2
  have ee : q_cv N0 kv (.float x) = .ref (adV i) := by
    show kv x.toNat = _
    rw [hx]; exact (h5 i hi).2
  show W p l e R s m args below meth co H locs cells slots Q (F0 m pc ls (q_cv N0 kv (.float x) :: st.map (q_cv N0 kv)))
  rw [ee]
  exact va_tlen hX.1 hX.2.1 (h4.1 i hi).2.2.2 hS hn (q_dec hp) (k ls hL)
theorem G_baldK {d y pc : Nat} {ll : List (Option Value)} {st : List Value} {M : qM} {r : Option Value} {M' : qM} {i : Nat} {x : UInt32} {j n : Int32} (hp : q_pg y pc = some (.baload, 1)) (hi : i < 5) (hx : x.toNat = 8 + i) (hin : vp_in j (q_sln.getD i 0)) (hn : (q_sby.getD i []).getD j.toNatClampNeg 0 = n) (g : G d y (pc + 1, ll, .int n :: st, M) r M') : G d y (pc, ll, .int j :: .float x :: st, M) r M' := by
  refine G_same g fun l D dA kv N0 p e s m args below meth co R Q hX hR H locs ls cells slots hL hW hS k => ?_
  obtain ⟨-, -, -, adK, adV, h4, h5, h6⟩ := hX.2.2.2.2.2.2.1.2.2.2.2
  have ee : q_cv N0 kv (.float x) = .ref (adV i) := by
    show kv x.toNat = _
    rw [hx]; exact (h5 i hi).2
  show W p l e R s m args below meth co H locs cells slots Q (F0 m pc ls (.int j :: q_cv N0 kv (.float x) :: st.map (q_cv N0 kv)))
  rw [ee]
  exact va_tb hX.1 hX.2.1 (h4.1 i hi).2.2.2 hS hin (by rw [← hn]; rfl) (q_dec hp) (k ls hL)
theorem G_ialdK {d y pc : Nat} {ll : List (Option Value)} {st : List Value} {M : qM} {r : Option Value} {M' : qM} {q : Nat × String × Nat × List Int32} {x : UInt32} {j n : Int32} (hp : q_pg y pc = some (.iaload, 1)) (hq : q ∈ q_ka) (hx : x.toNat = q.1) (hin : vp_in j q.2.2.1) (hn : q.2.2.2.getD j.toNatClampNeg 0 = n) (g : G d y (pc + 1, ll, .int n :: st, M) r M') : G d y (pc, ll, .int j :: .float x :: st, M) r M' := by
  refine G_same g fun l D dA kv N0 p e s m args below meth co R Q hX hR H locs ls cells slots hL hW hS k => ?_
  obtain ⟨t, e1, -, hT⟩ := hX.2.2.2.2.2.2.1.2.2.2.2.1 q hq
  have ee : q_cv N0 kv (.float x) = .ref t := by
    show kv x.toNat = _
    rw [hx]; exact e1
  show W p l e R s m args below meth co H locs cells slots Q (F0 m pc ls (.int j :: q_cv N0 kv (.float x) :: st.map (q_cv N0 kv)))
  rw [ee]
  exact va_ti hX.1 hX.2.1 hT hS hin (by rw [← hn]; rfl) (q_dec hp) (k ls hL)
theorem G_callK {d y pc : Nat} {ll : List (Option Value)} {M : qM} {r : Option Value} {M' : qM} {idx y2 : Nat} {i : Nat} {x : UInt32} {as rest : List Value} {r1 : Option Value} {M1 : qM} (hp : q_pg y pc = some (.invokevirtual idx, 3)) (hc : q_ck (q_on y) idx = some (0, y2)) (hi : i < 5) (hx : x.toNat = 3 + i) (hcls : (q_yn y2).cls = "java/lang/String") (hna : as.length = q_na y2) (hcat : (rest.map Value.category).sum ≤ 8) (hm : GM d y2 (.float x :: as) M r1 M1) (hle : q_n M1 ≤ q_n M') (g : G (d + 1) y (pc + 3, ll, r1.toList ++ rest, M1) r M') : G (d + 1) y (pc, ll, as.reverse ++ .float x :: rest, M) r M' := by
  intro l D dA kv N0 n0 p e s m args below meth co R Q hB hn H locs ls hL hW hS
  have hX := hB.1
  have hts := hX.2.2.2.2.1
  have hF := hX.2.2.2.2.2.2.1
  obtain ⟨p1, p2, p3, hw⟩ := q_cl1 (q_on1 (q_ylt hp)).1 hc
  simp only [q_clb, Bool.and_eq_true, decide_eq_true_eq] at hw
  obtain ⟨hy2, hle1, hmet⟩ := hm
  obtain ⟨m1, m2, m3, m4, m5⟩ := q_mt1 hy2
  have hroom : (q_Rm d (q_n M1 - q_n M) (q_sl (q_n M1) - q_sl (q_n M))).frames + 1 ≤ R.frames ∧ 8 + (q_ml y2 + 11) + (q_Rm d (q_n M1 - q_n M) (q_sl (q_n M1) - q_sl (q_n M))).locals ≤ R.locals := by
    have h1 := hB.2.1
    refine ⟨h1.1, ?_⟩
    show 8 + (q_ml y2 + 11) + 36 * d ≤ R.locals
    have := h1.2
    omega
  have hGd : GoodIn qTB (q_ws y2) := q_good (fun w h => h) hy2
  have hfix : CallFix p m co (q_cb y) (q_ml y) s args qTB (q_os (q_on y)) := ⟨hX.1, hX.2.1, hX.2.2.1, hX.2.2.2.1, hts⟩
  obtain ⟨-, -, -, adK, adV, h4, h5, h6⟩ := hF.2.2.2.2
  have ex : kv x.toNat = .ref (adK i) := by rw [hx]; exact (h5 i hi).1
  have hcw : CallW R s args (q_os (q_on y)) (q_yn y2).cls idx (q_yn y2) (q_cb y2) (q_ml y2) (q_rt y2) (q_ws y2) (q_Rm d (q_n M1 - q_n M) (q_sl (q_n M1) - q_sl (q_n M))) (q_n M1 - q_n M) (q_sl (q_n M1) - q_sl (q_n M)) (q_na y2) :=
    ⟨callB_of (q_na y2) hts hGd rfl rfl rfl (hts _ m2) (hts _ (q_inp_TB hw.2.1.1)) m3 hroom, hts _ (q_inp_TB hw.2.1.2), hts _ (q_inp_TB hw.2.2)⟩
  have hrecv : ∃ cell : Cell, H[adK i]? = some cell ∧ cell.vm.isStatics = false ∧ s.vm.findClass (q_yn y2).cls = some cell.cls := by
    rw [hcls]; exact vk_recv h4 hi hS
  have hpre := q_pre hF hW hS ((.float x :: as).map (q_cv N0 kv))
  have e9 : (Value.float x :: as).map (q_cv N0 kv) = .ref (adK i) :: as.map (q_cv N0 kv) := by rw [List.map_cons]; congr 1
  rw [e9] at hpre
  have hmet2 := hmet l D dA kv N0
  rw [e9] at hmet2
  have hstk : (as.reverse ++ .float x :: rest).map (q_cv N0 kv) = (as.map (q_cv N0 kv)).reverse ++ .ref (adK i) :: rest.map (q_cv N0 kv) := by simp [List.map_reverse, q_cv, ex]
  refine q_callW (rest := rest.map (q_cv N0 kv)) (va_runV hfix hmet2 hcw ⟨q_blind D dA kv N0 M _, hrecv, hpre⟩ (g := F0 m pc ls ((as.reverse ++ .float x :: rest).map (q_cv N0 kv))) rfl (by rw [List.length_map]; exact hna) hL.2.1 hstk (lv_room (by rw [q_sumc hF.2.2.2.1]; exact hcat)) (q_dec hp) ⟨q_roomC hn hle1 hle hB.2.2.1.1, q_roomD hn hle1 hle hB.2.2.1.2⟩) hS (fun H1 locs1 hW1 hS1 => ?_)
  have k := g l D dA kv N0 n0 p e s m args below meth co R Q hB (Nat.le_trans hn hle1) H1 locs1 ls hL hW1 hS1
  have k : W p l e R s m args below meth co H1 locs1 (q_n M1 - n0) (q_sl (q_n M1) - q_sl n0) Q (F0 m (pc + 3) ls ((r1.toList ++ rest).map (q_cv N0 kv))) := k
  rw [← q_map_app] at k
  exact W.cs (q_stepC hn hle1) (q_stepD hn hle1) k
end
section
/-! ===== the stable memory of the system: class and reference, built ===== -/
def q_rf (sw : Bool) (gc : Nat) (i k : Nat) : Option Nat := cond (Nat.ble i 62) (cond (Nat.ble i 15) (cond (Nat.ble i 2) (cond (Nat.ble i 0) (cond (Nat.beq i 0) (cond (Nat.ble k 2) (cond (Nat.ble k 0) (cond (Nat.beq k 0) (some (1)) none) (cond (Nat.ble k 1) (cond (Nat.beq k 1) (some (cond sw 9 4)) none) (cond (Nat.beq k 2) (some (cond sw 4 9)) none))) (cond (Nat.ble k 5) (cond (Nat.ble k 4) (cond (Nat.beq k 4) (some (14)) none) (cond (Nat.beq k 5) (some (46)) none)) (cond (Nat.ble k 10) (cond (Nat.beq k 10) (some (47)) none) (cond (Nat.beq k 14) (some (53)) none)))) none) (cond (Nat.ble i 1) (cond (Nat.beq i 1) (cond (Nat.beq k 0) (some (2)) none) none) (cond (Nat.beq i 2) (cond (Nat.beq k 0) (some (3)) none) none))) (cond (Nat.ble i 9) (cond (Nat.ble i 4) (cond (Nat.beq i 4) (cond (Nat.ble k 1) (cond (Nat.ble k 0) (cond (Nat.beq k 0) (some (5)) none) (cond (Nat.beq k 1) (some (6)) none)) (cond (Nat.ble k 2) (cond (Nat.beq k 2) (some (7)) none) (cond (Nat.beq k 3) (some (8)) none))) none) (cond (Nat.beq i 9) (cond (Nat.ble k 1) (cond (Nat.ble k 0) (cond (Nat.beq k 0) (some (10)) none) (cond (Nat.beq k 1) (some (11)) none)) (cond (Nat.ble k 2) (cond (Nat.beq k 2) (some (12)) none) (cond (Nat.beq k 3) (some (13)) none))) none)) (cond (Nat.ble i 14) (cond (Nat.beq i 14) (cond (Nat.beq k 0) (some (15)) none) none) (cond (Nat.beq i 15) (cond (Nat.ble k 29) (some (k + 16)) none) none)))) (cond (Nat.ble i 54) (cond (Nat.ble i 47) (cond (Nat.ble i 46) (cond (Nat.beq i 46) (cond (Nat.ble (k + 1) gc) (some (2 * k + 89)) none) none) (cond (Nat.beq i 47) (cond (Nat.ble k 1) (cond (Nat.ble k 0) (cond (Nat.beq k 0) (some (48)) none) (cond (Nat.beq k 1) (some (49)) none)) (cond (Nat.ble k 2) (cond (Nat.beq k 2) (some (50)) none) (cond (Nat.ble k 4) (cond (Nat.beq k 4) (some (51)) none) (cond (Nat.beq k 5) (some (52)) none)))) none)) (cond (Nat.ble i 53) (cond (Nat.beq i 53) (cond (Nat.ble k 3) (some (2 * k + 54)) none) none) (cond (Nat.beq i 54) (cond (Nat.beq k 0) (some (55)) none) none))) (cond (Nat.ble i 58) (cond (Nat.ble i 56) (cond (Nat.beq i 56) (cond (Nat.beq k 0) (some (57)) none) none) (cond (Nat.beq i 58) (cond (Nat.beq k 0) (some (59)) none) none)) (cond (Nat.ble i 60) (cond (Nat.beq i 60) (cond (Nat.beq k 0) (some (61)) none) none) (cond (Nat.beq i 62) (cond (Nat.ble k 22) (cond (Nat.ble k 14) (cond (Nat.ble k 10) (cond (Nat.ble k 0) (cond (Nat.beq k 0) (some (63)) none) (cond (Nat.ble k 8) (cond (Nat.beq k 8) (some (64)) none) (cond (Nat.beq k 10) (some (65)) none))) (cond (Nat.ble k 11) (cond (Nat.beq k 11) (some (66)) none) (cond (Nat.ble k 12) (cond (Nat.beq k 12) (some (67)) none) (cond (Nat.beq k 14) (some (68)) none)))) (cond (Nat.ble k 17) (cond (Nat.ble k 15) (cond (Nat.beq k 15) (some (69)) none) (cond (Nat.ble k 16) (cond (Nat.beq k 16) (some (70)) none) (cond (Nat.beq k 17) (some (71)) none))) (cond (Nat.ble k 19) (cond (Nat.ble k 18) (cond (Nat.beq k 18) (some (72)) none) (cond (Nat.beq k 19) (some (73)) none)) (cond (Nat.ble k 21) (cond (Nat.beq k 21) (some (74)) none) (cond (Nat.beq k 22) (some (75)) none))))) (cond (Nat.ble k 28) (cond (Nat.ble k 25) (cond (Nat.ble k 23) (cond (Nat.beq k 23) (some (76)) none) (cond (Nat.ble k 24) (cond (Nat.beq k 24) (some (77)) none) (cond (Nat.beq k 25) (some (78)) none))) (cond (Nat.ble k 26) (cond (Nat.beq k 26) (some (79)) none) (cond (Nat.ble k 27) (cond (Nat.beq k 27) (some (80)) none) (cond (Nat.beq k 28) (some (81)) none)))) (cond (Nat.ble k 35) (cond (Nat.ble k 33) (cond (Nat.beq k 33) (some (82)) none) (cond (Nat.ble k 34) (cond (Nat.beq k 34) (some (83)) none) (cond (Nat.beq k 35) (some (84)) none))) (cond (Nat.ble k 39) (cond (Nat.ble k 38) (cond (Nat.beq k 38) (some (85)) none) (cond (Nat.beq k 39) (some (86)) none)) (cond (Nat.ble k 40) (cond (Nat.beq k 40) (some (87)) none) (cond (Nat.beq k 41) (some (88)) none)))))) none))))) (cond (Nat.ble 89 i && Nat.ble (i + 1) (2 * gc + 89) && Nat.beq (i % 2) 1 && Nat.beq k 0) (some (i + 1)) none)
def qS (sw : Bool) (gc : Nat) (I : Nat → Nat → Int32) (J : Nat → Nat → Int64) : qM := ((2 * gc + 89, q_rf sw gc), (I, J))
theorem q_hn (sw : Bool) (gc : Nat) (I : Nat → Nat → Int32) (J : Nat → Nat → Int64) : 89 ≤ q_n (qS sw gc I J) := Nat.le_add_left _ _
theorem q_lt {sw : Bool} {gc : Nat} {I : Nat → Nat → Int32} {J : Nat → Nat → Int64} {i : Nat} (h : i < 89) : i < q_n (qS sw gc I J) := Nat.lt_of_lt_of_le h (q_hn sw gc I J)
/-- walls -/
theorem q_shW {w : Nat} (h : w < 30) : q_SH (w + 16) = some (.inl 7) := by
  have h1 : (List.range 30).all (fun w => decide (q_SH (w + 16) = some (.inl 7))) = true := by decide +kernel
  exact of_decide_eq_true (List.all_eq_true.mp h1 w (List.mem_range.mpr h))
theorem q_rfW {sw : Bool} {gc w : Nat} (h : w < 30) : q_rf sw gc 15 w = some (w + 16) := by
  show cond (Nat.ble w 29) (some (w + 16)) none = _
  rw [Nat.ble_eq_true_of_le (by omega)]; rfl
theorem q_ltW {sw : Bool} {gc : Nat} {I : Nat → Nat → Int32} {J : Nat → Nat → Int64} {w : Nat} (h : w < 30) : w + 16 < q_n (qS sw gc I J) := q_lt (by omega)
/-- gangs -/
theorem q_shG {k : Nat} (h : k < 8) : q_SH (2 * k + 89) = some (.inl 1) ∧ q_SH (2 * k + 90) = some (.inr (0, 30)) := by
  have h1 : (List.range 8).all (fun k => decide (q_SH (2 * k + 89) = some (.inl 1) ∧ q_SH (2 * k + 90) = some (.inr (0, 30)))) = true := by decide +kernel
  exact of_decide_eq_true (List.all_eq_true.mp h1 k (List.mem_range.mpr h))
theorem q_rfG {sw : Bool} {gc k : Nat} (h : k < gc) : q_rf sw gc 46 k = some (2 * k + 89) := by
  show cond (Nat.ble (k + 1) gc) (some (2 * k + 89)) none = _
  rw [Nat.ble_eq_true_of_le (by omega)]; rfl
theorem q_rfGn {sw : Bool} {gc k : Nat} (h : gc ≤ k) : q_rf sw gc 46 k = none := by
  show cond (Nat.ble (k + 1) gc) (some (2 * k + 89)) none = _
  have : Nat.ble (k + 1) gc = false := by
    cases hb : Nat.ble (k + 1) gc with
    | true => exact absurd (Nat.le_of_ble_eq_true hb) (by omega)
    | false => rfl
  rw [this]; rfl
theorem q_rfA {sw : Bool} {gc k : Nat} (h : k < gc) : q_rf sw gc (2 * k + 89) 0 = some (2 * k + 90) := by
  unfold q_rf
  have h1 : Nat.ble (2 * k + 89) 62 = false := by
    cases hb : Nat.ble (2 * k + 89) 62 with
    | true => exact absurd (Nat.le_of_ble_eq_true hb) (by omega)
    | false => rfl
  have h2 : Nat.ble 89 (2 * k + 89) = true := Nat.ble_eq_true_of_le (by omega)
  have h3 : Nat.ble (2 * k + 89 + 1) (2 * gc + 89) = true := Nat.ble_eq_true_of_le (by omega)
  have h4 : Nat.beq ((2 * k + 89) % 2) 1 = true := by rw [show (2 * k + 89) % 2 = 1 by omega]; rfl
  rw [h1, h2, h3, h4]
  rfl
theorem q_ltG {sw : Bool} {gc : Nat} {I : Nat → Nat → Int32} {J : Nat → Nat → Int64} {k : Nat} (h : k < gc) : 2 * k + 89 < q_n (qS sw gc I J) ∧ 2 * k + 90 < q_n (qS sw gc I J) := by
  show 2 * k + 89 < 2 * gc + 89 ∧ 2 * k + 90 < 2 * gc + 89
  omega
/-- sheets -/
theorem q_shS {k : Nat} (h : k < 4) : q_SH (2 * k + 54) = some (.inl 5) ∧ q_SH (2 * k + 55) = some (.inr (3, 60)) := by
  have h1 : (List.range 4).all (fun k => decide (q_SH (2 * k + 54) = some (.inl 5) ∧ q_SH (2 * k + 55) = some (.inr (3, 60)))) = true := by decide +kernel
  exact of_decide_eq_true (List.all_eq_true.mp h1 k (List.mem_range.mpr h))
theorem q_rfS {sw : Bool} {gc k : Nat} (h : k < 4) : q_rf sw gc 53 k = some (2 * k + 54) ∧ q_rf sw gc (2 * k + 54) 0 = some (2 * k + 55) := by
  rcases (show k = 0 ∨ k = 1 ∨ k = 2 ∨ k = 3 by omega) with rfl | rfl | rfl | rfl <;> exact ⟨rfl, rfl⟩
theorem q_ltS {sw : Bool} {gc : Nat} {I : Nat → Nat → Int32} {J : Nat → Nat → Int64} {k : Nat} (h : k < 4) : 2 * k + 54 < q_n (qS sw gc I J) ∧ 2 * k + 55 < q_n (qS sw gc I J) := ⟨q_lt (by omega), q_lt (by omega)⟩
end
section
/-! ===== small numbers ===== -/
theorem q_clamp {n : Nat} (h : n < 2 ^ 31) : (nI n).toNatClampNeg = n := nI_clamp h
def q_b (b : Bool) : Int32 := cond b 1 0
theorem q_b0 {b : Bool} : q_b b = 0 ↔ b = false := by cases b <;> decide
theorem q_b1 {b : Bool} (h : ¬ q_b b = 0) : b = true := by cases b with | true => rfl | false => exact absurd rfl h
theorem q_bn {b : Bool} : narrow .boolean (.int (q_b b)) = .int (q_b b) := by cases b <;> rfl
theorem q_lt_int (a b : Int32) : a < b ↔ a.toInt < b.toInt := Int32.lt_iff_toInt_lt
theorem q_le_int (a b : Int32) : a ≤ b ↔ a.toInt ≤ b.toInt := Int32.le_iff_toInt_le
theorem q_eq_int (a b : Int32) : a = b ↔ a.toInt = b.toInt := Int32.toInt_inj.symm
theorem q_nltN {n : Nat} {x : Int32} (hx : x < 0) (h : n < 2 ^ 31) : ¬ nI n < x := by
  rw [q_lt_int] at hx ⊢
  rw [nI_toInt h]
  have : (0 : Int32).toInt = 0 := rfl
  omega
theorem q_nleN {n : Nat} {x : Int32} (hx : x < 0) (h : n < 2 ^ 31) : ¬ nI n ≤ x := by
  rw [q_lt_int] at hx
  rw [q_le_int, nI_toInt h]
  have : (0 : Int32).toInt = 0 := rfl
  omega
theorem q_neN {n : Nat} {x : Int32} (hx : x < 0) (h : n < 2 ^ 31) : ¬ nI n = x := by
  rw [q_lt_int] at hx
  rw [q_eq_int, nI_toInt h]
  have : (0 : Int32).toInt = 0 := rfl
  omega
theorem q_cmp_lt (a b : Int64) : lg_cmp a b < 0 ↔ a < b := by
  unfold lg_cmp
  simp only [gt_iff_lt, Int64.lt_iff_toInt_lt, ← Int64.toInt_inj]
  split
  · simp; omega
  · split
    · simp; omega
    · simp; omega
theorem q_cmp_gt (a b : Int64) : 0 < lg_cmp a b ↔ b < a := by
  unfold lg_cmp
  simp only [gt_iff_lt, Int64.lt_iff_toInt_lt, ← Int64.toInt_inj]
  split
  · simp; omega
  · split
    · simp; omega
    · simp; omega
theorem q_cmp_ge (a b : Int64) : 0 ≤ lg_cmp a b ↔ b ≤ a := lg_cmp_ge a b
theorem q_cmp_le (a b : Int64) : lg_cmp a b ≤ 0 ↔ a ≤ b := by
  unfold lg_cmp
  simp only [gt_iff_lt, Int64.lt_iff_toInt_lt, Int64.le_iff_toInt_le, ← Int64.toInt_inj]
  split
  · simp; omega
  · split
    · simp; omega
    · simp; omega
theorem q_cmp_eq (a b : Int64) : lg_cmp a b = 0 ↔ a = b := by
  unfold lg_cmp
  simp only [gt_iff_lt, Int64.lt_iff_toInt_lt, ← Int64.toInt_inj]
  split
  · simp; omega
  · split
    · simp; omega
    · simp; omega
/-- an int is a number below n, or not -/
theorem q_ix (x : Int32) {n : Nat} (hn : n < 2 ^ 31) : (∃ j : Nat, j < n ∧ x = nI j) ∨ (x < 0 ∨ nI n ≤ x) := by
  rcases pk_ix x hn with h | h | h
  · exact Or.inr (Or.inl h)
  · exact Or.inr (Or.inr h)
  · exact Or.inl h
theorem q_6 (a b : Nat) : (6 : Int32) * nI a + nI b = nI (6 * a + b) := by rw [show (6 : Int32) = nI 6 from rfl, pk_mul, nI_add]
theorem q_us {α : Type} (f : Nat → Nat → α) (i k : Nat) (x : α) : q_u f i k x i k = x := by simp [q_u]
theorem q_un {α : Type} (f : Nat → Nat → α) {i k a b : Nat} (x : α) (h : ¬ (a = i ∧ b = k)) : q_u f i k x a b = f a b := by simp [q_u, h]
/-- fewer locals known -/
def q_le : List (Option Value) → List (Option Value) → Prop
  | [], [] => True
  | none :: t, _ :: u => q_le t u
  | some a :: t, some b :: u => a = b ∧ q_le t u
  | _, _ => False
theorem q_le_len : ∀ {a b : List (Option Value)}, q_le a b → a.length = b.length
  | [], [], _ => rfl
  | none :: t, _ :: u, h => by rw [List.length_cons, List.length_cons, q_le_len (a := t) (b := u) h]
  | some x :: t, some y :: u, h => by rw [List.length_cons, List.length_cons, q_le_len (a := t) (b := u) h.2]
  | [], _ :: _, h => absurd h (by simp [q_le])
  | none :: _, [], h => absurd h (by simp [q_le])
  | some _ :: _, [], h => absurd h (by simp [q_le])
  | some _ :: _, none :: _, h => absurd h (by simp [q_le])
theorem q_le_get : ∀ {a b : List (Option Value)}, q_le a b → ∀ (i : Nat) (v : Value), a[i]? = some (some v) → b[i]? = some (some v)
  | [], [], _, i, v, h => by simp at h
  | none :: t, o :: u, h, 0, v, hi => by simp at hi
  | none :: t, o :: u, h, i + 1, v, hi => by
    rw [List.getElem?_cons_succ] at hi ⊢
    exact q_le_get (a := t) (b := u) h i v hi
  | some x :: t, some y :: u, h, 0, v, hi => by
    have e : x = y := h.1
    subst e
    exact hi
  | some x :: t, some y :: u, h, i + 1, v, hi => by
    rw [List.getElem?_cons_succ] at hi ⊢
    exact q_le_get (a := t) (b := u) h.2 i v hi
  | [], _ :: _, h, _, _, _ => absurd h (by simp [q_le])
  | none :: _, [], h, _, _, _ => absurd h (by simp [q_le])
  | some _ :: _, [], h, _, _, _ => absurd h (by simp [q_le])
  | some _ :: _, none :: _, h, _, _, _ => absurd h (by simp [q_le])
theorem G_fg {d y pc : Nat} {ll : List (Option Value)} {st : List Value} {M : qM} {r : Option Value} {M' : qM} (ll2 : List (Option Value)) (h : q_le ll2 ll) (g : G d y (pc, ll2, st, M) r M') : G d y (pc, ll, st, M) r M' := by
  intro l D dA kv N0 n0 p e s m args below meth co R Q hB hn H locs ls hL hW hS
  refine g l D dA kv N0 n0 p e s m args below meth co R Q hB hn H locs ls ⟨(q_le_len h).trans hL.1, q_has_sub hL.2 ?_⟩ hW hS
  rintro ⟨j, w⟩ hq
  obtain ⟨v, -, h2, rfl⟩ := (q_as_iff _ _ 0 j w).mp hq
  exact (q_as_iff _ _ 0 j _).mpr ⟨v, Nat.zero_le _, q_le_get h _ v h2, rfl⟩
theorem q_addP {A B : Int32} {a b : Nat} (h1 : A = nI a) (h2 : B = nI b) : A + B = nI (a + b) := by rw [h1, h2, nI_add]
theorem q_mulP {A B : Int32} {a b : Nat} (h1 : A = nI a) (h2 : B = nI b) : A * B = nI (a * b) := by rw [h1, h2, pk_mul]
theorem q_subP {A B : Int32} {a b : Nat} (h1 : A = nI a) (h2 : B = nI b) (h : b ≤ a) : A - B = nI (a - b) := by rw [h1, h2, pk_sub h]
theorem q_decP {A : Int32} {a : Nat} (h1 : A = nI a) (n : Nat) {m : Int32} (hm : m = -nI n) (h : n ≤ a) : A + m = nI (a - n) := by
  rw [h1, hm, ← pk_sub h, Int32.sub_eq_add_neg]
theorem q_i2lP {A : Int32} {a : Nat} (h1 : A = nI a) (h : a < 2 ^ 31) : A.toInt64 = lN a := by rw [h1, nI_l h]
end
section
def f_isGoodness (v : Int32) : Int32 := if v < 0 then 0 else if 9 < v then 0 else 1
theorem m_isGoodness {d : Nat} {M : qM} (v : Int32) : GM d 1 [.int v] (M) (some (.int (f_isGoodness v))) (M) := by
  refine GM_of (by decide) (Nat.le_refl _) (Nat.le_of_ble_eq_true rfl) (by unfold f_isGoodness; split <;> first | rfl | (split <;> first | rfl | (split <;> rfl))) ?_
  refine G_st (L := 0) (k := 0) (0, [some (.int v)], [], M) (Nat.zero_le _) rfl ?_
  refine G_st (L := 0) (k := 1) (1, [some (.int v)], [.int v], M) (Nat.zero_le _) rfl ?_
  refine G_if_lt 14 rfl rfl (fun h1 => ?_) (fun h1 => ?_)
  · skip
    refine G_st (L := 0) (k := 1) (15, [some (.int v)], [.int 0], M) (Nat.zero_le _) rfl ?_
    exact G_iret rfl rfl (by rw [f_isGoodness, if_pos h1]) rfl
  · skip
    refine G_st (L := 0) (k := 2) (7, [some (.int v)], [.int 9, .int v], M) (Nat.zero_le _) rfl ?_
    refine G_icmp_gt 14 rfl rfl (fun h2 => ?_) (fun h2 => ?_)
    · skip
      refine G_st (L := 0) (k := 1) (15, [some (.int v)], [.int 0], M) (Nat.zero_le _) rfl ?_
      exact G_iret rfl rfl (by rw [f_isGoodness, if_neg h1, if_pos h2]) rfl
    · skip
      refine G_st (L := 0) (k := 2) (15, [some (.int v)], [.int 1], M) (Nat.zero_le _) rfl ?_
      exact G_iret rfl rfl (by rw [f_isGoodness, if_neg h1, if_neg h2]) rfl
def f_indexOf (g c : Int32) : Int32 := if g < 0 then (-4) else if 5 ≤ g then (-4) else if c < 0 then (-4) else if c < 6 then (6 * g) + c else (-4)
theorem m_indexOf {d : Nat} {M : qM} (g c : Int32) : GM d 2 [.int g, .int c] (M) (some (.int (f_indexOf g c))) (M) := by
  refine GM_of (by decide) (Nat.le_refl _) (Nat.le_of_ble_eq_true rfl) trivial ?_
  refine G_st (L := 0) (k := 0) (0, [some (.int g), some (.int c)], [], M) (Nat.zero_le _) rfl ?_
  refine G_st (L := 0) (k := 1) (1, [some (.int g), some (.int c)], [.int g], M) (Nat.zero_le _) rfl ?_
  refine G_if_lt 19 rfl rfl (fun h1 => ?_) (fun h1 => ?_)
  · skip
    refine G_st (L := 0) (k := 1) (21, [some (.int g), some (.int c)], [.int (-4)], M) (Nat.zero_le _) rfl ?_
    exact G_iret rfl rfl (by rw [f_indexOf, if_pos h1]) rfl
  · skip
    refine G_st (L := 0) (k := 2) (6, [some (.int g), some (.int c)], [.int 5, .int g], M) (Nat.zero_le _) rfl ?_
    refine G_icmp_ge 19 rfl rfl (fun h2 => ?_) (fun h2 => ?_)
    · skip
      refine G_st (L := 0) (k := 1) (21, [some (.int g), some (.int c)], [.int (-4)], M) (Nat.zero_le _) rfl ?_
      exact G_iret rfl rfl (by rw [f_indexOf, if_neg h1, if_pos h2]) rfl
    · skip
      refine G_st (L := 0) (k := 1) (10, [some (.int g), some (.int c)], [.int c], M) (Nat.zero_le _) rfl ?_
      refine G_if_lt 19 rfl rfl (fun h3 => ?_) (fun h3 => ?_)
      · skip
        refine G_st (L := 0) (k := 1) (21, [some (.int g), some (.int c)], [.int (-4)], M) (Nat.zero_le _) rfl ?_
        exact G_iret rfl rfl (by rw [f_indexOf, if_neg h1, if_neg h2, if_pos h3]) rfl
      · skip
        refine G_st (L := 0) (k := 2) (16, [some (.int g), some (.int c)], [.int 6, .int c], M) (Nat.zero_le _) rfl ?_
        refine G_icmp_lt 22 rfl rfl (fun h4 => ?_) (fun h4 => ?_)
        · skip
          refine G_st (L := 0) (k := 5) (28, [some (.int g), some (.int c)], [.int ((6 * g) + c)], M) (Nat.zero_le _) rfl ?_
          exact G_iret rfl rfl (by rw [f_indexOf, if_neg h1, if_neg h2, if_neg h3, if_pos h4]) rfl
        · skip
          refine G_st (L := 0) (k := 1) (21, [some (.int g), some (.int c)], [.int (-4)], M) (Nat.zero_le _) rfl ?_
          exact G_iret rfl rfl (by rw [f_indexOf, if_neg h1, if_neg h2, if_neg h3, if_neg h4]) rfl
def f_isLane (v : Int32) : Int32 := if v < 0 then 0 else if 2 < v then 0 else 1
theorem m_isLane {d : Nat} {M : qM} (v : Int32) : GM d 54 [.int v] (M) (some (.int (f_isLane v))) (M) := by
  refine GM_of (by decide) (Nat.le_refl _) (Nat.le_of_ble_eq_true rfl) (by unfold f_isLane; split <;> first | rfl | (split <;> first | rfl | (split <;> rfl))) ?_
  refine G_st (L := 0) (k := 0) (0, [some (.int v)], [], M) (Nat.zero_le _) rfl ?_
  refine G_st (L := 0) (k := 1) (1, [some (.int v)], [.int v], M) (Nat.zero_le _) rfl ?_
  refine G_if_lt 13 rfl rfl (fun h1 => ?_) (fun h1 => ?_)
  · skip
    refine G_st (L := 0) (k := 1) (14, [some (.int v)], [.int 0], M) (Nat.zero_le _) rfl ?_
    exact G_iret rfl rfl (by rw [f_isLane, if_pos h1]) rfl
  · skip
    refine G_st (L := 0) (k := 2) (6, [some (.int v)], [.int 2, .int v], M) (Nat.zero_le _) rfl ?_
    refine G_icmp_gt 13 rfl rfl (fun h2 => ?_) (fun h2 => ?_)
    · skip
      refine G_st (L := 0) (k := 1) (14, [some (.int v)], [.int 0], M) (Nat.zero_le _) rfl ?_
      exact G_iret rfl rfl (by rw [f_isLane, if_neg h1, if_pos h2]) rfl
    · skip
      refine G_st (L := 0) (k := 2) (14, [some (.int v)], [.int 1], M) (Nat.zero_le _) rfl ?_
      exact G_iret rfl rfl (by rw [f_isLane, if_neg h1, if_neg h2]) rfl
def f_isSlate (a b : Int32) : Int32 := if a < 1 then 0 else if 20 < a then 0 else if b < 1 then 0 else if 200 < b then 0 else 1
theorem m_isSlate {d : Nat} {M : qM} (a b : Int32) : GM d 42 [.int a, .int b] (M) (some (.int (f_isSlate a b))) (M) := by
  refine GM_of (by decide) (Nat.le_refl _) (Nat.le_of_ble_eq_true rfl) (by unfold f_isSlate; repeat (first | rfl | split)) ?_
  refine G_st (L := 0) (k := 0) (0, [some (.int a), some (.int b)], [], M) (Nat.zero_le _) rfl ?_
  refine G_st (L := 0) (k := 2) (2, [some (.int a), some (.int b)], [.int 1, .int a], M) (Nat.zero_le _) rfl ?_
  refine G_icmp_lt 27 rfl rfl (fun h1 => ?_) (fun h1 => ?_)
  · skip
    refine G_st (L := 0) (k := 1) (28, [some (.int a), some (.int b)], [.int 0], M) (Nat.zero_le _) rfl ?_
    exact G_iret rfl rfl (by rw [f_isSlate, if_pos h1]) rfl
  · skip
    refine G_st (L := 0) (k := 2) (8, [some (.int a), some (.int b)], [.int 20, .int a], M) (Nat.zero_le _) rfl ?_
    refine G_icmp_gt 27 rfl rfl (fun h2 => ?_) (fun h2 => ?_)
    · skip
      refine G_st (L := 0) (k := 1) (28, [some (.int a), some (.int b)], [.int 0], M) (Nat.zero_le _) rfl ?_
      exact G_iret rfl rfl (by rw [f_isSlate, if_neg h1, if_pos h2]) rfl
    · skip
      refine G_st (L := 0) (k := 2) (13, [some (.int a), some (.int b)], [.int 1, .int b], M) (Nat.zero_le _) rfl ?_
      refine G_icmp_lt 27 rfl rfl (fun h3 => ?_) (fun h3 => ?_)
      · skip
        refine G_st (L := 0) (k := 1) (28, [some (.int a), some (.int b)], [.int 0], M) (Nat.zero_le _) rfl ?_
        exact G_iret rfl rfl (by rw [f_isSlate, if_neg h1, if_neg h2, if_pos h3]) rfl
      · skip
        refine G_st (L := 0) (k := 2) (20, [some (.int a), some (.int b)], [.int 200, .int b], M) (Nat.zero_le _) rfl ?_
        refine G_icmp_gt 27 rfl rfl (fun h4 => ?_) (fun h4 => ?_)
        · skip
          refine G_st (L := 0) (k := 1) (28, [some (.int a), some (.int b)], [.int 0], M) (Nat.zero_le _) rfl ?_
          exact G_iret rfl rfl (by rw [f_isSlate, if_neg h1, if_neg h2, if_neg h3, if_pos h4]) rfl
        · skip
          refine G_st (L := 0) (k := 2) (28, [some (.int a), some (.int b)], [.int 1], M) (Nat.zero_le _) rfl ?_
          exact G_iret rfl rfl (by rw [f_isSlate, if_neg h1, if_neg h2, if_neg h3, if_neg h4]) rfl
def f_isBlock (a b : Int64) : Int32 := if (lg_cmp a 1) < 0 then 0 else if 0 < (lg_cmp a 40) then 0 else if (lg_cmp ((Int64.toUInt64 b >>> ((Int32.toInt64 (Int64.toInt32 a)).toUInt64 &&& Int64.toUInt64 63)).toInt64) 0) = 0 then 1 else 0
theorem m_isBlock {d : Nat} {M : qM} (a b : Int64) : GM d 43 [.long a, .long b] (M) (some (.int (f_isBlock a b))) (M) := by
  refine GM_of (by decide) (Nat.le_refl _) (Nat.le_of_ble_eq_true rfl) (by unfold f_isBlock; repeat (first | rfl | split)) ?_
  refine G_st (L := 0) (k := 0) (0, [some (.long a), none, some (.long b), none], [], M) (Nat.zero_le _) rfl ?_
  refine G_st (L := 0) (k := 3) (3, [some (.long a), none, some (.long b), none], [.int (lg_cmp a 1)], M) (Nat.zero_le _) rfl ?_
  refine G_if_lt 27 rfl rfl (fun h1 => ?_) (fun h1 => ?_)
  · skip
    refine G_st (L := 0) (k := 1) (28, [some (.long a), none, some (.long b), none], [.int 0], M) (Nat.zero_le _) rfl ?_
    exact G_iret rfl rfl (by rw [f_isBlock, if_pos h1]) rfl
  · skip
    refine G_st (L := 0) (k := 3) (11, [some (.long a), none, some (.long b), none], [.int (lg_cmp a 40)], M) (Nat.zero_le _) rfl ?_
    refine G_if_gt 27 rfl rfl (fun h2 => ?_) (fun h2 => ?_)
    · skip
      refine G_st (L := 0) (k := 1) (28, [some (.long a), none, some (.long b), none], [.int 0], M) (Nat.zero_le _) rfl ?_
      exact G_iret rfl rfl (by rw [f_isBlock, if_neg h1, if_pos h2]) rfl
    · skip
      refine G_st (L := 0) (k := 6) (20, [some (.long a), none, some (.long b), none], [.int (lg_cmp ((Int64.toUInt64 b >>> ((Int32.toInt64 (Int64.toInt32 a)).toUInt64 &&& Int64.toUInt64 63)).toInt64) 0)], M) (Nat.zero_le _) rfl ?_
      refine G_if_ne 27 rfl rfl (fun h3 => ?_) (fun h3 => ?_)
      · skip
        refine G_st (L := 0) (k := 1) (28, [some (.long a), none, some (.long b), none], [.int 0], M) (Nat.zero_le _) rfl ?_
        exact G_iret rfl rfl (by rw [f_isBlock, if_neg h1, if_neg h2, if_neg h3]) rfl
      · skip
        refine G_st (L := 0) (k := 2) (28, [some (.long a), none, some (.long b), none], [.int 1], M) (Nat.zero_le _) rfl ?_
        exact G_iret rfl rfl (by rw [f_isBlock, if_neg h1, if_neg h2, if_pos h3]) rfl
def f_isNumberLaw (v : Int32) : Int32 := if v < 0 then 0 else if 4 ≤ v then 0 else 1
theorem m_isNumberLaw {d : Nat} {M : qM} (v : Int32) : GM d 21 [.int v] (M) (some (.int (f_isNumberLaw v))) (M) := by
  refine GM_of (by decide) (Nat.le_refl _) (Nat.le_of_ble_eq_true rfl) (by unfold f_isNumberLaw; split <;> first | rfl | (split <;> first | rfl | (split <;> rfl))) ?_
  refine G_st (L := 0) (k := 0) (0, [some (.int v)], [], M) (Nat.zero_le _) rfl ?_
  refine G_st (L := 0) (k := 1) (1, [some (.int v)], [.int v], M) (Nat.zero_le _) rfl ?_
  refine G_if_lt 13 rfl rfl (fun h1 => ?_) (fun h1 => ?_)
  · skip
    refine G_st (L := 0) (k := 1) (14, [some (.int v)], [.int 0], M) (Nat.zero_le _) rfl ?_
    exact G_iret rfl rfl (by rw [f_isNumberLaw, if_pos h1]) rfl
  · skip
    refine G_st (L := 0) (k := 2) (6, [some (.int v)], [.int 4, .int v], M) (Nat.zero_le _) rfl ?_
    refine G_icmp_ge 13 rfl rfl (fun h2 => ?_) (fun h2 => ?_)
    · skip
      refine G_st (L := 0) (k := 1) (14, [some (.int v)], [.int 0], M) (Nat.zero_le _) rfl ?_
      exact G_iret rfl rfl (by rw [f_isNumberLaw, if_neg h1, if_pos h2]) rfl
    · skip
      refine G_st (L := 0) (k := 2) (14, [some (.int v)], [.int 1], M) (Nat.zero_le _) rfl ?_
      exact G_iret rfl rfl (by rw [f_isNumberLaw, if_neg h1, if_neg h2]) rfl
def f_isPoundage (v : Int32) : Int32 := if v < 0 then 0 else if 300 < v then 0 else 1
theorem m_isPoundage {d : Nat} {M : qM} (v : Int32) : GM d 24 [.int v] (M) (some (.int (f_isPoundage v))) (M) := by
  refine GM_of (by decide) (Nat.le_refl _) (Nat.le_of_ble_eq_true rfl) (by unfold f_isPoundage; split <;> first | rfl | (split <;> first | rfl | (split <;> rfl))) ?_
  refine G_st (L := 0) (k := 0) (0, [some (.int v)], [], M) (Nat.zero_le _) rfl ?_
  refine G_st (L := 0) (k := 1) (1, [some (.int v)], [.int v], M) (Nat.zero_le _) rfl ?_
  refine G_if_lt 15 rfl rfl (fun h1 => ?_) (fun h1 => ?_)
  · skip
    refine G_st (L := 0) (k := 1) (16, [some (.int v)], [.int 0], M) (Nat.zero_le _) rfl ?_
    exact G_iret rfl rfl (by rw [f_isPoundage, if_pos h1]) rfl
  · skip
    refine G_st (L := 0) (k := 2) (8, [some (.int v)], [.int 300, .int v], M) (Nat.zero_le _) rfl ?_
    refine G_icmp_gt 15 rfl rfl (fun h2 => ?_) (fun h2 => ?_)
    · skip
      refine G_st (L := 0) (k := 1) (16, [some (.int v)], [.int 0], M) (Nat.zero_le _) rfl ?_
      exact G_iret rfl rfl (by rw [f_isPoundage, if_neg h1, if_pos h2]) rfl
    · skip
      refine G_st (L := 0) (k := 2) (16, [some (.int v)], [.int 1], M) (Nat.zero_le _) rfl ?_
      exact G_iret rfl rfl (by rw [f_isPoundage, if_neg h1, if_neg h2]) rfl
def f_isLetter (v : Int32) : Int32 := if v < 97 then 0 else if 122 < v then 0 else 1
theorem m_isLetter {d : Nat} {M : qM} (v : Int32) : GM d 39 [.int v] (M) (some (.int (f_isLetter v))) (M) := by
  refine GM_of (by decide) (Nat.le_refl _) (Nat.le_of_ble_eq_true rfl) (by unfold f_isLetter; split <;> first | rfl | (split <;> first | rfl | (split <;> rfl))) ?_
  refine G_st (L := 0) (k := 0) (0, [some (.int v)], [], M) (Nat.zero_le _) rfl ?_
  refine G_st (L := 0) (k := 2) (3, [some (.int v)], [.int 97, .int v], M) (Nat.zero_le _) rfl ?_
  refine G_icmp_lt 16 rfl rfl (fun h1 => ?_) (fun h1 => ?_)
  · skip
    refine G_st (L := 0) (k := 1) (17, [some (.int v)], [.int 0], M) (Nat.zero_le _) rfl ?_
    exact G_iret rfl rfl (by rw [f_isLetter, if_pos h1]) rfl
  · skip
    refine G_st (L := 0) (k := 2) (9, [some (.int v)], [.int 122, .int v], M) (Nat.zero_le _) rfl ?_
    refine G_icmp_gt 16 rfl rfl (fun h2 => ?_) (fun h2 => ?_)
    · skip
      refine G_st (L := 0) (k := 1) (17, [some (.int v)], [.int 0], M) (Nat.zero_le _) rfl ?_
      exact G_iret rfl rfl (by rw [f_isLetter, if_neg h1, if_pos h2]) rfl
    · skip
      refine G_st (L := 0) (k := 2) (17, [some (.int v)], [.int 1], M) (Nat.zero_le _) rfl ?_
      exact G_iret rfl rfl (by rw [f_isLetter, if_neg h1, if_neg h2]) rfl
def f_isFigure (v : Int32) : Int32 := if v < 48 then 0 else if 57 < v then 0 else 1
theorem m_isFigure {d : Nat} {M : qM} (v : Int32) : GM d 40 [.int v] (M) (some (.int (f_isFigure v))) (M) := by
  refine GM_of (by decide) (Nat.le_refl _) (Nat.le_of_ble_eq_true rfl) (by unfold f_isFigure; split <;> first | rfl | (split <;> first | rfl | (split <;> rfl))) ?_
  refine G_st (L := 0) (k := 0) (0, [some (.int v)], [], M) (Nat.zero_le _) rfl ?_
  refine G_st (L := 0) (k := 2) (3, [some (.int v)], [.int 48, .int v], M) (Nat.zero_le _) rfl ?_
  refine G_icmp_lt 16 rfl rfl (fun h1 => ?_) (fun h1 => ?_)
  · skip
    refine G_st (L := 0) (k := 1) (17, [some (.int v)], [.int 0], M) (Nat.zero_le _) rfl ?_
    exact G_iret rfl rfl (by rw [f_isFigure, if_pos h1]) rfl
  · skip
    refine G_st (L := 0) (k := 2) (9, [some (.int v)], [.int 57, .int v], M) (Nat.zero_le _) rfl ?_
    refine G_icmp_gt 16 rfl rfl (fun h2 => ?_) (fun h2 => ?_)
    · skip
      refine G_st (L := 0) (k := 1) (17, [some (.int v)], [.int 0], M) (Nat.zero_le _) rfl ?_
      exact G_iret rfl rfl (by rw [f_isFigure, if_neg h1, if_pos h2]) rfl
    · skip
      refine G_st (L := 0) (k := 2) (17, [some (.int v)], [.int 1], M) (Nat.zero_le _) rfl ?_
      exact G_iret rfl rfl (by rw [f_isFigure, if_neg h1, if_neg h2]) rfl
def f_jcmp (a b : Int32) : Int32 := if b ≤ a then if a = b then 0 else 1 else (-1)
theorem m_jcmp {d : Nat} {M : qM} (a b : Int32) : GM d 145 [.int a, .int b] (M) (some (.int (f_jcmp a b))) (M) := by
  refine GM_of (by decide) (Nat.le_refl _) (Nat.le_of_ble_eq_true rfl) trivial ?_
  refine G_st (L := 0) (k := 0) (0, [some (.int a), some (.int b)], [], M) (Nat.zero_le _) rfl ?_
  refine G_st (L := 0) (k := 2) (2, [some (.int a), some (.int b)], [.int b, .int a], M) (Nat.zero_le _) rfl ?_
  refine G_icmp_ge 9 rfl rfl (fun h1 => ?_) (fun h1 => ?_)
  · skip
    refine G_st (L := 0) (k := 2) (11, [some (.int a), some (.int b)], [.int b, .int a], M) (Nat.zero_le _) rfl ?_
    refine G_icmp_ne 18 rfl rfl (fun h2 => ?_) (fun h2 => ?_)
    · skip
      refine G_st (L := 0) (k := 1) (19, [some (.int a), some (.int b)], [.int 1], M) (Nat.zero_le _) rfl ?_
      exact G_iret rfl rfl (by rw [f_jcmp, if_pos h1, if_neg h2]) rfl
    · skip
      refine G_st (L := 0) (k := 2) (19, [some (.int a), some (.int b)], [.int 0], M) (Nat.zero_le _) rfl ?_
      exact G_iret rfl rfl (by rw [f_jcmp, if_pos h1, if_pos h2]) rfl
  · skip
    refine G_st (L := 0) (k := 2) (19, [some (.int a), some (.int b)], [.int (-1)], M) (Nat.zero_le _) rfl ?_
    exact G_iret rfl rfl (by rw [f_jcmp, if_neg h1]) rfl
def f_jmax (a b : Int32) : Int32 := if a < b then b else a
theorem m_jmax {d : Nat} {M : qM} (a b : Int32) : GM d 147 [.int a, .int b] (M) (some (.int (f_jmax a b))) (M) := by
  refine GM_of (by decide) (Nat.le_refl _) (Nat.le_of_ble_eq_true rfl) trivial ?_
  refine G_st (L := 0) (k := 0) (0, [some (.int a), some (.int b)], [], M) (Nat.zero_le _) rfl ?_
  refine G_st (L := 0) (k := 2) (2, [some (.int a), some (.int b)], [.int b, .int a], M) (Nat.zero_le _) rfl ?_
  refine G_icmp_lt 9 rfl rfl (fun h1 => ?_) (fun h1 => ?_)
  · skip
    refine G_st (L := 0) (k := 1) (10, [some (.int a), some (.int b)], [.int b], M) (Nat.zero_le _) rfl ?_
    exact G_iret rfl rfl (by rw [f_jmax, if_pos h1]) rfl
  · skip
    refine G_st (L := 0) (k := 2) (10, [some (.int a), some (.int b)], [.int a], M) (Nat.zero_le _) rfl ?_
    exact G_iret rfl rfl (by rw [f_jmax, if_neg h1]) rfl
def f_in (v lo hi : Int64) : Int32 := if (lg_cmp v lo) < 0 then 0 else if 0 < (lg_cmp v hi) then 0 else 1
theorem m_in {d : Nat} {M : qM} (v lo hi : Int64) : GM d 99 [.long v, .long lo, .long hi] (M) (some (.int (f_in v lo hi))) (M) := by
  refine GM_of (by decide) (Nat.le_refl _) (Nat.le_of_ble_eq_true rfl) (by unfold f_in; split <;> first | rfl | (split <;> first | rfl | (split <;> rfl))) ?_
  refine G_st (L := 0) (k := 0) (0, [some (.long v), none, some (.long lo), none, some (.long hi), none], [], M) (Nat.zero_le _) rfl ?_
  refine G_st (L := 0) (k := 3) (3, [some (.long v), none, some (.long lo), none, some (.long hi), none], [.int (lg_cmp v lo)], M) (Nat.zero_le _) rfl ?_
  refine G_if_lt 17 rfl rfl (fun h1 => ?_) (fun h1 => ?_)
  · skip
    refine G_st (L := 0) (k := 1) (18, [some (.long v), none, some (.long lo), none, some (.long hi), none], [.int 0], M) (Nat.zero_le _) rfl ?_
    exact G_iret rfl rfl (by rw [f_in, if_pos h1]) rfl
  · skip
    refine G_st (L := 0) (k := 3) (10, [some (.long v), none, some (.long lo), none, some (.long hi), none], [.int (lg_cmp v hi)], M) (Nat.zero_le _) rfl ?_
    refine G_if_gt 17 rfl rfl (fun h2 => ?_) (fun h2 => ?_)
    · skip
      refine G_st (L := 0) (k := 1) (18, [some (.long v), none, some (.long lo), none, some (.long hi), none], [.int 0], M) (Nat.zero_le _) rfl ?_
      exact G_iret rfl rfl (by rw [f_in, if_neg h1, if_pos h2]) rfl
    · skip
      refine G_st (L := 0) (k := 2) (18, [some (.long v), none, some (.long lo), none, some (.long hi), none], [.int 1], M) (Nat.zero_le _) rfl ?_
      exact G_iret rfl rfl (by rw [f_in, if_neg h1, if_neg h2]) rfl
end
section
theorem x_wallAt {d : Nat} {sw : Bool} {gc : Nat} {I : Nat → Nat → Int32} {J : Nat → Nat → Int64} {w : Nat} (hw : w < 30) : GM d 3 [.ref 14, .int (nI w)] (qS sw gc I J) (some (.ref (w + 16))) (qS sw gc I J) := by
  refine GM_of (by decide) (Nat.le_refl _) (Nat.le_of_ble_eq_true rfl) rfl ?_
  refine G_st (L := 89) (k := 0) (0, [some (.ref 14), some (.int (nI w))], [], qS sw gc I J) (q_hn _ _ _ _) rfl ?_
  refine G_st (L := 89) (k := 1) (1, [some (.ref 14), some (.int (nI w))], [.int (nI w)], qS sw gc I J) (q_hn _ _ _ _) rfl ?_
  refine G_if_lt 10 rfl rfl (fun h9 => absurd h9 (nI_nlt (b := 0) (by omega) (by omega))) (fun _ => ?_)
  refine G_st (L := 89) (k := 2) (7, [some (.ref 14), some (.int (nI w))], [.int 30, .int (nI w)], qS sw gc I J) (q_hn _ _ _ _) rfl ?_
  refine G_icmp_lt 14 rfl rfl (fun _ => ?_) (fun h9 => absurd (nI_lt (b := 30) (by omega) (by decide)) h9)
  refine G_st (L := 89) (k := 3) (19, [some (.ref 14), some (.int (nI w))], [.int (nI w), .ref 15], qS sw gc I J) (q_hn _ _ _ _) rfl ?_
  refine G_aald (i := 15) (n := 30) (t := 4) rfl rfl (by decide) (q_lt (by decide)) (vp_in_nI (by omega) (by decide)) ?_
  rw [q_clamp (n := w) (by omega)]
  rw [show q_r (qS sw gc I J) 15 w = some (w + 16) from @q_rfW sw gc w (by omega)]
  refine G_st (L := 89) (k := 0) (20, [some (.ref 14), some (.int (nI w))], [.ref (w + 16)], qS sw gc I J) (q_hn _ _ _ _) rfl ?_
  exact G_aret rfl rfl rfl rfl
theorem q_bad30 {x : Int32} (hx : x < 0 ∨ nI 30 ≤ x) (h : ¬ x < 0) : ¬ x < 30 := by
  rcases hx with h2 | h2
  · exact absurd h2 h
  · intro z
    rw [q_le_int] at h2
    rw [q_lt_int] at z
    have e1 : (30 : Int32).toInt = 30 := rfl
    have e2 : (nI 30).toInt = 30 := rfl
    omega
theorem x_wallAtN {d : Nat} {sw : Bool} {gc : Nat} {I : Nat → Nat → Int32} {J : Nat → Nat → Int64} {x : Int32} (hx : x < 0 ∨ nI 30 ≤ x) : GM d 3 [.ref 14, .int x] (qS sw gc I J) (some (.null)) (qS sw gc I J) := by
  refine GM_of (by decide) (Nat.le_refl _) (Nat.le_of_ble_eq_true rfl) rfl ?_
  refine G_st (L := 89) (k := 0) (0, [some (.ref 14), some (.int x)], [], qS sw gc I J) (q_hn _ _ _ _) rfl ?_
  refine G_st (L := 89) (k := 1) (1, [some (.ref 14), some (.int x)], [.int x], qS sw gc I J) (q_hn _ _ _ _) rfl ?_
  refine G_if_lt 10 rfl rfl (fun h1 => ?_) (fun h1 => ?_)
  · skip
    refine G_st (L := 89) (k := 2) (20, [some (.ref 14), some (.int x)], [.null], qS sw gc I J) (q_hn _ _ _ _) rfl ?_
    exact G_aret rfl rfl rfl rfl
  · skip
    refine G_st (L := 89) (k := 2) (7, [some (.ref 14), some (.int x)], [.int 30, .int x], qS sw gc I J) (q_hn _ _ _ _) rfl ?_
    refine G_icmp_lt 14 rfl rfl (fun h9 => absurd h9 (q_bad30 hx h1)) (fun _ => ?_)
    refine G_st (L := 89) (k := 2) (20, [some (.ref 14), some (.int x)], [.null], qS sw gc I J) (q_hn _ _ _ _) rfl ?_
    exact G_aret rfl rfl rfl rfl
def x_lo (I : Nat → Nat → Int32) (w : Nat) : Bool := !decide (I (w + 16) 2 = 0)
theorem x_isLoose {d : Nat} {sw : Bool} {gc : Nat} {I : Nat → Nat → Int32} {J : Nat → Nat → Int64} {w : Nat} (hw : w < 30) : GM (d + 1) 5 [.ref 14, .int (nI w)] (qS sw gc I J) (some (.int (q_b (x_lo I w)))) (qS sw gc I J) := by
  refine GM_of (by decide) (Nat.le_refl _) (Nat.le_of_ble_eq_true rfl) q_bn ?_
  refine G_st (L := 89) (k := 0) (0, [some (.ref 14), some (.int (nI w)), none], [], qS sw gc I J) (q_hn _ _ _ _) rfl ?_
  refine G_st (L := 89) (k := 2) (2, [some (.ref 14), some (.int (nI w)), none], [.int (nI w), .ref 14], qS sw gc I J) (q_hn _ _ _ _) rfl ?_
  refine G_callV (b := 14) (ci := 0) (as := [.int (nI w)]) (rest := []) rfl rfl rfl (q_lt (by decide)) (by decide) rfl rfl (Nat.le_of_ble_eq_true rfl) (x_wallAt (by omega)) (Nat.le_refl _) ?_
  refine G_st (L := 89) (k := 4) (11, [some (.ref 14), some (.int (nI w)), some (.ref (w + 16))], [.ref (w + 16)], qS sw gc I J) (q_hn _ _ _ _) rfl ?_
  refine G_get (ci := 7) (k := 2) (i := w + 16) rfl rfl (q_shW (by omega)) (q_ltW (by omega)) ?_
  refine G_st (L := 89) (k := 0) (14, [some (.ref 14), some (.int (nI w)), some (.ref (w + 16))], [.int (I (w + 16) 2)], qS sw gc I J) (q_hn _ _ _ _) rfl ?_
  refine G_if_eq 21 rfl rfl (fun h1 => ?_) (fun h1 => ?_)
  · skip
    refine G_st (L := 89) (k := 1) (22, [some (.ref 14), some (.int (nI w)), some (.ref (w + 16))], [.int 0], qS sw gc I J) (q_hn _ _ _ _) rfl ?_
    exact G_iret rfl rfl (by rw [x_lo, decide_eq_true h1]; rfl) rfl
  · skip
    refine G_st (L := 89) (k := 2) (22, [some (.ref 14), some (.int (nI w)), some (.ref (w + 16))], [.int 1], qS sw gc I J) (q_hn _ _ _ _) rfl ?_
    exact G_iret rfl rfl (by rw [x_lo, decide_eq_false h1]; rfl) rfl
def x_mayN (I : Nat → Nat → Int32) : Nat → Nat → Bool
  | 0, _ => true
  | n + 1, w => cond (Nat.ble 30 w) true (cond (x_lo I w) false (x_mayN I n (w + 6)))
def x_may (I : Nat → Nat → Int32) (w : Nat) : Bool := x_mayN I 6 w
theorem x_may_loop {d : Nat} {sw : Bool} {gc : Nat} {I : Nat → Nat → Int32} {J : Nat → Nat → Int64} {x : Int32} : ∀ (n u : Nat), u < 36 → 36 ≤ u + 6 * n → G (d + 2) 4 (12, [some (.ref 14), some (.int x), some (.int (nI u))], [], qS sw gc I J) (some (.int (q_b (x_mayN I n u)))) (qS sw gc I J) := by
  intro n
  induction n with
  | zero => intro u h1 h2; exact absurd h2 (by omega)
  | succ n ih =>
    intro u h1 h2
    by_cases hu : u < 30
    · have e1 : Nat.ble 30 u = false := by
        cases hb : Nat.ble 30 u with
        | true => exact absurd (Nat.le_of_ble_eq_true hb) (by omega)
        | false => rfl
      refine G_st (L := 89) (k := 2) (15, [some (.ref 14), some (.int x), some (.int (nI u))], [.int 30, .int (nI u)], qS sw gc I J) (q_hn _ _ _ _) rfl ?_
      refine G_icmp_ge 34 rfl rfl (fun h9 => absurd h9 (nI_ge (b := 30) (by omega) (by decide))) (fun _ => ?_)
      refine G_st (L := 89) (k := 2) (20, [some (.ref 14), some (.int x), some (.int (nI u))], [.int (nI u), .ref 14], qS sw gc I J) (q_hn _ _ _ _) rfl ?_
      refine G_callV (b := 14) (ci := 0) (as := [.int (nI u)]) (rest := []) rfl rfl rfl (q_lt (by decide)) (by decide) rfl rfl (Nat.le_of_ble_eq_true rfl) (x_isLoose (by omega)) (Nat.le_refl _) ?_
      refine G_st (L := 89) (k := 0) (23, [some (.ref 14), some (.int x), some (.int (nI u))], [.int (q_b (x_lo I u))], qS sw gc I J) (q_hn _ _ _ _) rfl ?_
      refine G_if_eq 28 rfl rfl (fun h1 => ?_) (fun h1 => ?_)
      · skip
        refine G_st (L := 89) (k := 2) (12, [some (.ref 14), some (.int x), some (.int ((nI u) + 6))], [], qS sw gc I J) (q_hn _ _ _ _) rfl ?_
        rw [show (nI u) + 6 = nI (u + 6) from (q_addP rfl rfl)]
        rw [x_mayN, e1, q_b0.mp h1]
        exact ih (u + 6) (by omega) (by omega)
      · skip
        refine G_st (L := 89) (k := 1) (27, [some (.ref 14), some (.int x), some (.int (nI u))], [.int 0], qS sw gc I J) (q_hn _ _ _ _) rfl ?_
        exact G_iret rfl rfl (by rw [x_mayN, e1, q_b1 h1]; rfl) rfl
    · have e1 : Nat.ble 30 u = true := Nat.ble_eq_true_of_le (by omega)
      refine G_st (L := 89) (k := 2) (15, [some (.ref 14), some (.int x), some (.int (nI u))], [.int 30, .int (nI u)], qS sw gc I J) (q_hn _ _ _ _) rfl ?_
      refine G_icmp_ge 34 rfl rfl (fun _ => ?_) (fun h9 => absurd (nI_le (a := 30) (by omega) (by omega)) h9)
      refine G_st (L := 89) (k := 1) (35, [some (.ref 14), some (.int x), some (.int (nI u))], [.int 1], qS sw gc I J) (q_hn _ _ _ _) rfl ?_
      exact G_iret rfl rfl (by rw [x_mayN, e1]; rfl) rfl
theorem x_mayBeWorked {d : Nat} {sw : Bool} {gc : Nat} {I : Nat → Nat → Int32} {J : Nat → Nat → Int64} {w : Nat} (hw : w < 30) : GM (d + 2) 4 [.ref 14, .int (nI w)] (qS sw gc I J) (some (.int (q_b (x_may I w)))) (qS sw gc I J) := by
  refine GM_of (by decide) (Nat.le_refl _) (Nat.le_of_ble_eq_true rfl) q_bn ?_
  refine G_st (L := 89) (k := 0) (0, [some (.ref 14), some (.int (nI w)), none], [], qS sw gc I J) (q_hn _ _ _ _) rfl ?_
  refine G_st (L := 89) (k := 2) (2, [some (.ref 14), some (.int (nI w)), none], [.int (nI w), .ref 14], qS sw gc I J) (q_hn _ _ _ _) rfl ?_
  refine G_callV (b := 14) (ci := 0) (as := [.int (nI w)]) (rest := []) rfl rfl rfl (q_lt (by decide)) (by decide) rfl rfl (Nat.le_of_ble_eq_true rfl) (x_wallAt (by omega)) (Nat.le_refl _) ?_
  refine G_st (L := 89) (k := 3) (12, [some (.ref 14), some (.int (nI w)), some (.int (nI w))], [], qS sw gc I J) (q_hn _ _ _ _) rfl ?_
  exact x_may_loop 6 w (by omega) (by omega)
theorem x_mayBeWorkedN {d : Nat} {sw : Bool} {gc : Nat} {I : Nat → Nat → Int32} {J : Nat → Nat → Int64} {x : Int32} (hx : x < 0 ∨ nI 30 ≤ x) : GM (d + 2) 4 [.ref 14, .int x] (qS sw gc I J) (some (.int 0)) (qS sw gc I J) := by
  refine GM_of (by decide) (Nat.le_refl _) (Nat.le_of_ble_eq_true rfl) rfl ?_
  refine G_st (L := 89) (k := 0) (0, [some (.ref 14), some (.int x), none], [], qS sw gc I J) (q_hn _ _ _ _) rfl ?_
  refine G_st (L := 89) (k := 2) (2, [some (.ref 14), some (.int x), none], [.int x, .ref 14], qS sw gc I J) (q_hn _ _ _ _) rfl ?_
  refine G_callV (b := 14) (ci := 0) (as := [.int x]) (rest := []) rfl rfl rfl (q_lt (by decide)) (by decide) rfl rfl (Nat.le_of_ble_eq_true rfl) (x_wallAtN hx) (Nat.le_refl _) ?_
  refine G_st (L := 89) (k := 2) (9, [some (.ref 14), some (.int x), none], [.int 0], qS sw gc I J) (q_hn _ _ _ _) rfl ?_
  exact G_iret rfl rfl rfl rfl
def x_loA (I : Nat → Nat → Int32) (w : Nat) (h : Int32) : Nat → Nat → Int32 := if h = (-4) then I else if (I (w + 16) 1) - (I (w + 6 + 16) 1) < h then I else q_u I (w + 6 + 16) 2 1
theorem x_loosenAbove {d : Nat} {sw : Bool} {gc : Nat} {I : Nat → Nat → Int32} {J : Nat → Nat → Int64} {w : Nat} {h : Int32} (hw : w < 24) : GM (d + 1) 6 [.ref 14, .int (nI w), .int h] (qS sw gc I J) (none) (qS sw gc (x_loA I w h) J) := by
  refine GM_of (by decide) (Nat.le_refl _) (Nat.le_of_ble_eq_true rfl) trivial ?_
  refine G_st (L := 89) (k := 0) (0, [some (.ref 14), some (.int (nI w)), some (.int h), none, none], [], qS sw gc I J) (q_hn _ _ _ _) rfl ?_
  refine G_st (L := 89) (k := 2) (2, [some (.ref 14), some (.int (nI w)), some (.int h), none, none], [.int (nI w), .ref 14], qS sw gc I J) (q_hn _ _ _ _) rfl ?_
  refine G_callV (b := 14) (ci := 0) (as := [.int (nI w)]) (rest := []) rfl rfl rfl (q_lt (by decide)) (by decide) rfl rfl (Nat.le_of_ble_eq_true rfl) (x_wallAt (by omega)) (Nat.le_refl _) ?_
  refine G_st (L := 89) (k := 5) (11, [some (.ref 14), some (.int (nI w)), some (.int h), some (.ref (w + 16)), none], [.int ((nI w) + 6), .ref 14], qS sw gc I J) (q_hn _ _ _ _) rfl ?_
  rw [show (nI w) + 6 = nI (w + 6) from (q_addP rfl rfl)]
  refine G_callV (b := 14) (ci := 0) (as := [.int (nI (w + 6))]) (rest := []) rfl rfl rfl (q_lt (by decide)) (by decide) rfl rfl (Nat.le_of_ble_eq_true rfl) (x_wallAt (by omega)) (Nat.le_refl _) ?_
  refine G_st (L := 89) (k := 7) (28, [some (.ref 14), some (.int (nI w)), some (.int h), some (.ref (w + 16)), some (.ref ((w + 6) + 16))], [.int (-4), .int h], qS sw gc I J) (q_hn _ _ _ _) rfl ?_
  refine G_icmp_ne 32 rfl rfl (fun h1 => ?_) (fun h1 => ?_)
  · skip
    refine G_st (L := 89) (k := 1) (33, [some (.ref 14), some (.int (nI w)), some (.int h), some (.ref (w + 16)), some (.ref ((w + 6) + 16))], [.ref (w + 16)], qS sw gc I J) (q_hn _ _ _ _) rfl ?_
    refine G_get (ci := 7) (k := 1) (i := w + 16) rfl rfl (q_shW (by omega)) (q_ltW (by omega)) ?_
    refine G_st (L := 89) (k := 1) (38, [some (.ref 14), some (.int (nI w)), some (.int h), some (.ref (w + 16)), some (.ref ((w + 6) + 16))], [.ref ((w + 6) + 16), .int (I (w + 16) 1)], qS sw gc I J) (q_hn _ _ _ _) rfl ?_
    refine G_get (ci := 7) (k := 1) (i := (w + 6) + 16) rfl rfl (q_shW (by omega)) (q_ltW (by omega)) ?_
    refine G_st (L := 89) (k := 2) (43, [some (.ref 14), some (.int (nI w)), some (.int h), some (.ref (w + 16)), some (.ref ((w + 6) + 16))], [.int h, .int ((I (w + 16) 1) - (I ((w + 6) + 16) 1))], qS sw gc I J) (q_hn _ _ _ _) rfl ?_
    refine G_icmp_lt 52 rfl rfl (fun h2 => ?_) (fun h2 => ?_)
    · skip
      exact G_ret rfl rfl rfl (by rw [x_loA, if_neg h1, if_pos h2])
    · skip
      refine G_st (L := 89) (k := 2) (49, [some (.ref 14), some (.int (nI w)), some (.int h), some (.ref (w + 16)), some (.ref ((w + 6) + 16))], [.int 1, .ref ((w + 6) + 16)], qS sw gc I J) (q_hn _ _ _ _) rfl ?_
      refine G_put (ci := 7) (k := 2) (i := (w + 6) + 16) (M1 := qS sw gc (q_u I ((w + 6) + 16) 2 1) J) rfl rfl (q_shW (by omega)) (q_ltW (by omega)) rfl rfl rfl ?_
      refine G_st (L := 89) (k := 0) (52, [some (.ref 14), some (.int (nI w)), some (.int h), some (.ref (w + 16)), some (.ref ((w + 6) + 16))], [], qS sw gc (q_u I ((w + 6) + 16) 2 1) J) (q_hn _ _ _ _) rfl ?_
      exact G_ret rfl rfl rfl (by rw [x_loA, if_neg h1, if_neg h2])
  · skip
    exact G_ret rfl rfl rfl (by rw [x_loA, if_pos h1])
theorem x_loosenAboveH {d : Nat} {sw : Bool} {gc : Nat} {I : Nat → Nat → Int32} {J : Nat → Nat → Int64} {w : Nat} {h : Int32} (hw : w < 30) (hw2 : 24 ≤ w) : GM (d + 1) 6 [.ref 14, .int (nI w), .int h] (qS sw gc I J) (none) (qS sw gc I J) := by
  refine GM_of (by decide) (Nat.le_refl _) (Nat.le_of_ble_eq_true rfl) trivial ?_
  refine G_st (L := 89) (k := 0) (0, [some (.ref 14), some (.int (nI w)), some (.int h), none, none], [], qS sw gc I J) (q_hn _ _ _ _) rfl ?_
  refine G_st (L := 89) (k := 2) (2, [some (.ref 14), some (.int (nI w)), some (.int h), none, none], [.int (nI w), .ref 14], qS sw gc I J) (q_hn _ _ _ _) rfl ?_
  refine G_callV (b := 14) (ci := 0) (as := [.int (nI w)]) (rest := []) rfl rfl rfl (q_lt (by decide)) (by decide) rfl rfl (Nat.le_of_ble_eq_true rfl) (x_wallAt (by omega)) (Nat.le_refl _) ?_
  refine G_st (L := 89) (k := 5) (11, [some (.ref 14), some (.int (nI w)), some (.int h), some (.ref (w + 16)), none], [.int ((nI w) + 6), .ref 14], qS sw gc I J) (q_hn _ _ _ _) rfl ?_
  rw [show (nI w) + 6 = nI (w + 6) from (q_addP rfl rfl)]
  refine G_callV (b := 14) (ci := 0) (as := [.int (nI (w + 6))]) (rest := []) rfl rfl rfl (q_lt (by decide)) (by decide) rfl rfl (Nat.le_of_ble_eq_true rfl) (x_wallAtN (Or.inr (nI_le (a := 30) (by omega) (by omega)))) (Nat.le_refl _) ?_
  refine G_st (L := 89) (k := 5) (31, [some (.ref 14), some (.int (nI w)), some (.int h), some (.ref (w + 16)), some (.null)], [], qS sw gc I J) (q_hn _ _ _ _) rfl ?_
  exact G_ret rfl rfl rfl rfl
def x_free (I : Nat → Nat → Int32) (i : Nat) : Nat → Nat → Int32 := fun a b => if i + 16 ≤ a ∧ a < 46 ∧ b = 3 then -4 else I a b
theorem x_free_step (I : Nat → Nat → Int32) {i : Nat} (h : i < 30) : x_free (q_u I (i + 16) 3 (-4)) (i + 1) = x_free I i := by
  funext a b
  unfold x_free q_u
  by_cases h1 : a = i + 16 ∧ b = 3
  · rw [if_pos h1, if_pos (show i + 16 ≤ a ∧ a < 46 ∧ b = 3 by omega)]; split <;> rfl
  · rw [if_neg h1]
    by_cases h2 : i + 1 + 16 ≤ a ∧ a < 46 ∧ b = 3
    · rw [if_pos h2, if_pos (by omega)]
    · rw [if_neg h2, if_neg (by omega)]
theorem x_free_end (I : Nat → Nat → Int32) : x_free I 30 = I := by
  funext a b
  unfold x_free
  rw [if_neg (by omega)]
theorem x_free_loop {d : Nat} {sw : Bool} {gc : Nat} {J : Nat → Nat → Int64} : ∀ (n i : Nat) (I : Nat → Nat → Int32), i + n = 30 → G (d + 1) 7 (2, [some (.ref 14), some (.int (nI i)), none], [], qS sw gc I J) none (qS sw gc (x_free I i) J) := by
  intro n
  induction n with
  | zero =>
    intro i I h
    obtain rfl : i = 30 := by omega
    rw [x_free_end]
    refine G_st (L := 89) (k := 2) (5, [some (.ref 14), some (.int 30), none], [.int 30, .int 30], qS sw gc I J) (q_hn _ _ _ _) rfl ?_
    refine G_icmp_ge 30 rfl rfl (fun _ => ?_) (fun h9 => absurd h9 (by decide))
    exact G_ret rfl rfl rfl rfl
  | succ n ih =>
    intro i I h
    rw [← x_free_step I (by omega)]
    refine G_st (L := 89) (k := 2) (5, [some (.ref 14), some (.int (nI i)), none], [.int 30, .int (nI i)], qS sw gc I J) (q_hn _ _ _ _) rfl ?_
    refine G_icmp_ge 30 rfl rfl (fun h9 => absurd h9 (nI_ge (b := 30) (by omega) (by decide))) (fun _ => ?_)
    refine G_st (L := 89) (k := 2) (10, [some (.ref 14), some (.int (nI i)), none], [.int (nI i), .ref 14], qS sw gc I J) (q_hn _ _ _ _) rfl ?_
    refine G_callV (b := 14) (ci := 0) (as := [.int (nI i)]) (rest := []) rfl rfl rfl (q_lt (by decide)) (by decide) rfl rfl (Nat.le_of_ble_eq_true rfl) (x_wallAt (by omega)) (Nat.le_refl _) ?_
    refine G_st (L := 89) (k := 5) (21, [some (.ref 14), some (.int (nI i)), some (.ref (i + 16))], [.int (-4), .ref (i + 16)], qS sw gc I J) (q_hn _ _ _ _) rfl ?_
    refine G_put (ci := 7) (k := 3) (i := i + 16) (M1 := qS sw gc (q_u I (i + 16) 3 (-4)) J) rfl rfl (q_shW (by omega)) (q_ltW (by omega)) rfl rfl rfl ?_
    refine G_st (L := 89) (k := 2) (2, [some (.ref 14), some (.int ((nI i) + 1)), some (.ref (i + 16))], [], qS sw gc (q_u I (i + 16) 3 (-4)) J) (q_hn _ _ _ _) rfl ?_
    rw [show (nI i) + 1 = nI (i + 1) from (q_addP rfl rfl)]
    refine G_fg [some (.ref 14), some (.int (nI (i + 1))), none] (by repeat (first | exact trivial | refine ⟨rfl, ?_⟩)) ?_
    exact ih (i + 1) _ (by omega)
theorem x_freeAll {d : Nat} {sw : Bool} {gc : Nat} {I : Nat → Nat → Int32} {J : Nat → Nat → Int64} : GM (d + 1) 7 [.ref 14] (qS sw gc I J) (none) (qS sw gc (x_free I 0) J) := by
  refine GM_of (by decide) (Nat.le_refl _) (Nat.le_of_ble_eq_true rfl) trivial ?_
  refine G_st (L := 89) (k := 0) (0, [some (.ref 14), none, none], [], qS sw gc I J) (q_hn _ _ _ _) rfl ?_
  refine G_st (L := 89) (k := 2) (2, [some (.ref 14), some (.int 0), none], [], qS sw gc I J) (q_hn _ _ _ _) rfl ?_
  exact x_free_loop 30 0 I rfl
def q_cnt (p : Nat → Bool) : Nat → Nat → Nat
  | 0, _ => 0
  | n + 1, i => (cond (p i) 1 0) + q_cnt p n (i + 1)
def x_heldP (I : Nat → Nat → Int32) (w : Nat) : Bool := !decide (I (w + 16) 3 = (-4))
theorem x_heldWalls_loop {d : Nat} {sw : Bool} {gc : Nat} {I : Nat → Nat → Int32} {J : Nat → Nat → Int64} : ∀ (n i c : Nat), i + n = 30 → c + n < 1000 → G (d + 1) 8 (4, [some (.ref 14), some (.int (nI c)), some (.int (nI i)), none], [], qS sw gc I J) (some (.int (nI (c + q_cnt (x_heldP I) n i)))) (qS sw gc I J) := by
  intro n
  induction n with
  | zero =>
    intro i c h h2
    obtain rfl : i = 30 := by omega
    refine G_st (L := 89) (k := 2) (7, [some (.ref 14), some (.int (nI c)), some (.int 30), none], [.int 30, .int 30], qS sw gc I J) (q_hn _ _ _ _) rfl ?_
    refine G_icmp_ge 38 rfl rfl (fun _ => ?_) (fun h9 => absurd h9 (by decide))
    refine G_st (L := 89) (k := 1) (39, [some (.ref 14), some (.int (nI c)), some (.int 30), none], [.int (nI c)], qS sw gc I J) (q_hn _ _ _ _) rfl ?_
    exact G_iret rfl rfl rfl rfl
  | succ n ih =>
    intro i c h h2
    refine G_st (L := 89) (k := 2) (7, [some (.ref 14), some (.int (nI c)), some (.int (nI i)), none], [.int 30, .int (nI i)], qS sw gc I J) (q_hn _ _ _ _) rfl ?_
    refine G_icmp_ge 38 rfl rfl (fun h9 => absurd h9 (nI_ge (b := 30) (by omega) (by decide))) (fun _ => ?_)
    refine G_st (L := 89) (k := 2) (12, [some (.ref 14), some (.int (nI c)), some (.int (nI i)), none], [.int (nI i), .ref 14], qS sw gc I J) (q_hn _ _ _ _) rfl ?_
    refine G_callV (b := 14) (ci := 0) (as := [.int (nI i)]) (rest := []) rfl rfl rfl (q_lt (by decide)) (by decide) rfl rfl (Nat.le_of_ble_eq_true rfl) (x_wallAt (by omega)) (Nat.le_refl _) ?_
    refine G_st (L := 89) (k := 4) (21, [some (.ref 14), some (.int (nI c)), some (.int (nI i)), some (.ref (i + 16))], [.ref (i + 16)], qS sw gc I J) (q_hn _ _ _ _) rfl ?_
    refine G_get (ci := 7) (k := 3) (i := i + 16) rfl rfl (q_shW (by omega)) (q_ltW (by omega)) ?_
    refine G_st (L := 89) (k := 1) (26, [some (.ref 14), some (.int (nI c)), some (.int (nI i)), some (.ref (i + 16))], [.int (-4), .int (I (i + 16) 3)], qS sw gc I J) (q_hn _ _ _ _) rfl ?_
    refine G_icmp_eq 32 rfl rfl (fun h1 => ?_) (fun h1 => ?_)
    · skip
      refine G_st (L := 89) (k := 2) (4, [some (.ref 14), some (.int (nI c)), some (.int ((nI i) + 1)), some (.ref (i + 16))], [], qS sw gc I J) (q_hn _ _ _ _) rfl ?_
      rw [show (nI i) + 1 = nI (i + 1) from (q_addP rfl rfl)]
      refine G_fg [some (.ref 14), some (.int (nI c)), some (.int (nI (i + 1))), none] (by repeat (first | exact trivial | refine ⟨rfl, ?_⟩)) ?_
      have e9 : x_heldP I i = false := (by unfold x_heldP; rw [decide_eq_true h1]; rfl)
      rw [show c + q_cnt (x_heldP I) (n + 1) i = c + q_cnt (x_heldP I) n (i + 1) by rw [q_cnt, e9]; simp only [cond_false]; omega]
      exact ih (i + 1) c (by omega) (by omega)
    · skip
      refine G_st (L := 89) (k := 3) (4, [some (.ref 14), some (.int ((nI c) + 1)), some (.int ((nI i) + 1)), some (.ref (i + 16))], [], qS sw gc I J) (q_hn _ _ _ _) rfl ?_
      rw [show (nI c) + 1 = nI (c + 1) from (q_addP rfl rfl)]
      rw [show (nI i) + 1 = nI (i + 1) from (q_addP rfl rfl)]
      refine G_fg [some (.ref 14), some (.int (nI (c + 1))), some (.int (nI (i + 1))), none] (by repeat (first | exact trivial | refine ⟨rfl, ?_⟩)) ?_
      have e9 : x_heldP I i = true := (by unfold x_heldP; rw [decide_eq_false h1]; rfl)
      rw [show c + q_cnt (x_heldP I) (n + 1) i = (c + 1) + q_cnt (x_heldP I) n (i + 1) by rw [q_cnt, e9]; simp only [cond_true]; omega]
      exact ih (i + 1) (c + 1) (by omega) (by omega)
theorem x_heldWalls {d : Nat} {sw : Bool} {gc : Nat} {I : Nat → Nat → Int32} {J : Nat → Nat → Int64} : GM (d + 1) 8 [.ref 14] (qS sw gc I J) (some (.int (nI (q_cnt (x_heldP I) 30 0)))) (qS sw gc I J) := by
  refine GM_of (by decide) (Nat.le_refl _) (Nat.le_of_ble_eq_true rfl) trivial ?_
  refine G_st (L := 89) (k := 0) (0, [some (.ref 14), none, none, none], [], qS sw gc I J) (q_hn _ _ _ _) rfl ?_
  refine G_st (L := 89) (k := 4) (4, [some (.ref 14), some (.int 0), some (.int 0), none], [], qS sw gc I J) (q_hn _ _ _ _) rfl ?_
  have e := x_heldWalls_loop (d := d) (sw := sw) (gc := gc) (I := I) (J := J) 30 0 0 rfl (by decide)
  rw [Nat.zero_add] at e
  exact e
theorem x_looseWalls_loop {d : Nat} {sw : Bool} {gc : Nat} {I : Nat → Nat → Int32} {J : Nat → Nat → Int64} : ∀ (n i c : Nat), i + n = 30 → c + n < 1000 → G (d + 2) 9 (4, [some (.ref 14), some (.int (nI c)), some (.int (nI i))], [], qS sw gc I J) (some (.int (nI (c + q_cnt (x_lo I) n i)))) (qS sw gc I J) := by
  intro n
  induction n with
  | zero =>
    intro i c h h2
    obtain rfl : i = 30 := by omega
    refine G_st (L := 89) (k := 2) (7, [some (.ref 14), some (.int (nI c)), some (.int 30)], [.int 30, .int 30], qS sw gc I J) (q_hn _ _ _ _) rfl ?_
    refine G_icmp_ge 27 rfl rfl (fun _ => ?_) (fun h9 => absurd h9 (by decide))
    refine G_st (L := 89) (k := 1) (28, [some (.ref 14), some (.int (nI c)), some (.int 30)], [.int (nI c)], qS sw gc I J) (q_hn _ _ _ _) rfl ?_
    exact G_iret rfl rfl rfl rfl
  | succ n ih =>
    intro i c h h2
    refine G_st (L := 89) (k := 2) (7, [some (.ref 14), some (.int (nI c)), some (.int (nI i))], [.int 30, .int (nI i)], qS sw gc I J) (q_hn _ _ _ _) rfl ?_
    refine G_icmp_ge 27 rfl rfl (fun h9 => absurd h9 (nI_ge (b := 30) (by omega) (by decide))) (fun _ => ?_)
    refine G_st (L := 89) (k := 2) (12, [some (.ref 14), some (.int (nI c)), some (.int (nI i))], [.int (nI i), .ref 14], qS sw gc I J) (q_hn _ _ _ _) rfl ?_
    refine G_callV (b := 14) (ci := 0) (as := [.int (nI i)]) (rest := []) rfl rfl rfl (q_lt (by decide)) (by decide) rfl rfl (Nat.le_of_ble_eq_true rfl) (x_isLoose (by omega)) (Nat.le_refl _) ?_
    refine G_st (L := 89) (k := 0) (15, [some (.ref 14), some (.int (nI c)), some (.int (nI i))], [.int (q_b (x_lo I i))], qS sw gc I J) (q_hn _ _ _ _) rfl ?_
    refine G_if_eq 21 rfl rfl (fun h1 => ?_) (fun h1 => ?_)
    · skip
      refine G_st (L := 89) (k := 2) (4, [some (.ref 14), some (.int (nI c)), some (.int ((nI i) + 1))], [], qS sw gc I J) (q_hn _ _ _ _) rfl ?_
      rw [show (nI i) + 1 = nI (i + 1) from (q_addP rfl rfl)]
      have e9 : x_lo I i = false := (q_b0.mp h1)
      rw [show c + q_cnt (x_lo I) (n + 1) i = c + q_cnt (x_lo I) n (i + 1) by rw [q_cnt, e9]; simp only [cond_false]; omega]
      exact ih (i + 1) c (by omega) (by omega)
    · skip
      refine G_st (L := 89) (k := 3) (4, [some (.ref 14), some (.int ((nI c) + 1)), some (.int ((nI i) + 1))], [], qS sw gc I J) (q_hn _ _ _ _) rfl ?_
      rw [show (nI c) + 1 = nI (c + 1) from (q_addP rfl rfl)]
      rw [show (nI i) + 1 = nI (i + 1) from (q_addP rfl rfl)]
      have e9 : x_lo I i = true := (q_b1 h1)
      rw [show c + q_cnt (x_lo I) (n + 1) i = (c + 1) + q_cnt (x_lo I) n (i + 1) by rw [q_cnt, e9]; simp only [cond_true]; omega]
      exact ih (i + 1) (c + 1) (by omega) (by omega)
theorem x_looseWalls {d : Nat} {sw : Bool} {gc : Nat} {I : Nat → Nat → Int32} {J : Nat → Nat → Int64} : GM (d + 2) 9 [.ref 14] (qS sw gc I J) (some (.int (nI (q_cnt (x_lo I) 30 0)))) (qS sw gc I J) := by
  refine GM_of (by decide) (Nat.le_refl _) (Nat.le_of_ble_eq_true rfl) trivial ?_
  refine G_st (L := 89) (k := 0) (0, [some (.ref 14), none, none], [], qS sw gc I J) (q_hn _ _ _ _) rfl ?_
  refine G_st (L := 89) (k := 4) (4, [some (.ref 14), some (.int 0), some (.int 0)], [], qS sw gc I J) (q_hn _ _ _ _) rfl ?_
  have e := x_looseWalls_loop (d := d) (sw := sw) (gc := gc) (I := I) (J := J) 30 0 0 rfl (by decide)
  rw [Nat.zero_add] at e
  exact e
end
section
def x_hw (I : Nat → Nat → Int32) (k : Nat) : Bool := !decide (I (2 * k + 89) 4 = (-4))
theorem x_hasWall {d : Nat} {sw : Bool} {gc : Nat} {I : Nat → Nat → Int32} {J : Nat → Nat → Int64} {k : Nat} (hk : k < gc) (hg : gc ≤ 8) : GM d 11 [.ref (2 * k + 89)] (qS sw gc I J) (some (.int (q_b (x_hw I k)))) (qS sw gc I J) := by
  refine GM_of (by decide) (Nat.le_refl _) (Nat.le_of_ble_eq_true rfl) q_bn ?_
  refine G_st (L := 89) (k := 0) (0, [some (.ref (2 * k + 89))], [], qS sw gc I J) (q_hn _ _ _ _) rfl ?_
  refine G_st (L := 89) (k := 1) (1, [some (.ref (2 * k + 89))], [.ref (2 * k + 89)], qS sw gc I J) (q_hn _ _ _ _) rfl ?_
  refine G_get (ci := 1) (k := 4) (i := 2 * k + 89) rfl rfl (q_shG (by omega)).1 (q_ltG (by omega)).1 ?_
  refine G_st (L := 89) (k := 1) (6, [some (.ref (2 * k + 89))], [.int (-4), .int (I (2 * k + 89) 4)], qS sw gc I J) (q_hn _ _ _ _) rfl ?_
  refine G_icmp_eq 13 rfl rfl (fun h1 => ?_) (fun h1 => ?_)
  · skip
    refine G_st (L := 89) (k := 1) (14, [some (.ref (2 * k + 89))], [.int 0], qS sw gc I J) (q_hn _ _ _ _) rfl ?_
    exact G_iret rfl rfl (by rw [x_hw, decide_eq_true h1]; rfl) rfl
  · skip
    refine G_st (L := 89) (k := 2) (14, [some (.ref (2 * k + 89))], [.int 1], qS sw gc I J) (q_hn _ _ _ _) rfl ?_
    exact G_iret rfl rfl (by rw [x_hw, decide_eq_false h1]; rfl) rfl
theorem x_askFor {d : Nat} {sw : Bool} {gc : Nat} {I : Nat → Nat → Int32} {J : Nat → Nat → Int64} {k : Nat} (hk : k < gc) (hg : gc ≤ 8) {w : Nat} (hw : w < 30) : GM d 12 [.ref (2 * k + 89), .int (nI w)] (qS sw gc I J) (some (.int (I (2 * k + 90) w))) (qS sw gc I J) := by
  refine GM_of (by decide) (Nat.le_refl _) (Nat.le_of_ble_eq_true rfl) trivial ?_
  refine G_st (L := 89) (k := 0) (0, [some (.ref (2 * k + 89)), some (.int (nI w))], [], qS sw gc I J) (q_hn _ _ _ _) rfl ?_
  refine G_st (L := 89) (k := 1) (1, [some (.ref (2 * k + 89)), some (.int (nI w))], [.int (nI w)], qS sw gc I J) (q_hn _ _ _ _) rfl ?_
  refine G_if_lt 10 rfl rfl (fun h9 => absurd h9 (nI_nlt (b := 0) (by omega) (by omega))) (fun _ => ?_)
  refine G_st (L := 89) (k := 2) (7, [some (.ref (2 * k + 89)), some (.int (nI w))], [.int 30, .int (nI w)], qS sw gc I J) (q_hn _ _ _ _) rfl ?_
  refine G_icmp_lt 15 rfl rfl (fun _ => ?_) (fun h9 => absurd (nI_lt (b := 30) (by omega) (by decide)) h9)
  refine G_st (L := 89) (k := 1) (16, [some (.ref (2 * k + 89)), some (.int (nI w))], [.ref (2 * k + 89)], qS sw gc I J) (q_hn _ _ _ _) rfl ?_
  refine G_get (ci := 1) (k := 0) (i := 2 * k + 89) rfl rfl (q_shG (by omega)).1 (q_ltG (by omega)).1 ?_
  rw [show q_av (qS sw gc I J) (2 * k + 89) (q_fty 1 0) 0 = .ref (2 * k + 90) from congrArg va_rf (@q_rfA sw gc _ (by omega))]
  refine G_st (L := 89) (k := 1) (20, [some (.ref (2 * k + 89)), some (.int (nI w))], [.int (nI w), .ref (2 * k + 90)], qS sw gc I J) (q_hn _ _ _ _) rfl ?_
  refine G_iald (i := 2 * k + 90) (n := 30) rfl (q_shG (by omega)).2 (q_ltG (by omega)).2 (vp_in_nI (by omega) (by decide)) ?_
  rw [q_clamp (n := w) (by omega)]
  refine G_st (L := 89) (k := 0) (21, [some (.ref (2 * k + 89)), some (.int (nI w))], [.int (I (2 * k + 90) w)], qS sw gc I J) (q_hn _ _ _ _) rfl ?_
  exact G_iret rfl rfl rfl rfl
theorem x_askForN {d : Nat} {sw : Bool} {gc : Nat} {I : Nat → Nat → Int32} {J : Nat → Nat → Int64} {k : Nat} (hk : k < gc) (hg : gc ≤ 8) {x : Int32} (hx : x < 0 ∨ nI 30 ≤ x) : GM d 12 [.ref (2 * k + 89), .int x] (qS sw gc I J) (some (.int (-4))) (qS sw gc I J) := by
  refine GM_of (by decide) (Nat.le_refl _) (Nat.le_of_ble_eq_true rfl) trivial ?_
  refine G_st (L := 89) (k := 0) (0, [some (.ref (2 * k + 89)), some (.int x)], [], qS sw gc I J) (q_hn _ _ _ _) rfl ?_
  refine G_st (L := 89) (k := 1) (1, [some (.ref (2 * k + 89)), some (.int x)], [.int x], qS sw gc I J) (q_hn _ _ _ _) rfl ?_
  refine G_if_lt 10 rfl rfl (fun h1 => ?_) (fun h1 => ?_)
  · skip
    refine G_st (L := 89) (k := 2) (21, [some (.ref (2 * k + 89)), some (.int x)], [.int (-4)], qS sw gc I J) (q_hn _ _ _ _) rfl ?_
    exact G_iret rfl rfl rfl rfl
  · skip
    refine G_st (L := 89) (k := 2) (7, [some (.ref (2 * k + 89)), some (.int x)], [.int 30, .int x], qS sw gc I J) (q_hn _ _ _ _) rfl ?_
    refine G_icmp_lt 15 rfl rfl (fun h9 => absurd h9 (q_bad30 hx h1)) (fun _ => ?_)
    refine G_st (L := 89) (k := 2) (21, [some (.ref (2 * k + 89)), some (.int x)], [.int (-4)], qS sw gc I J) (q_hn _ _ _ _) rfl ?_
    exact G_iret rfl rfl rfl rfl
theorem x_setAsk {d : Nat} {sw : Bool} {gc : Nat} {I : Nat → Nat → Int32} {J : Nat → Nat → Int64} {k : Nat} (hk : k < gc) (hg : gc ≤ 8) {w : Nat} {p : Int32} (hw : w < 30) : GM d 13 [.ref (2 * k + 89), .int (nI w), .int p] (qS sw gc I J) (none) (qS sw gc (q_u I (2 * k + 90) w p) J) := by
  refine GM_of (by decide) (Nat.le_refl _) (Nat.le_of_ble_eq_true rfl) trivial ?_
  refine G_st (L := 89) (k := 0) (0, [some (.ref (2 * k + 89)), some (.int (nI w)), some (.int p)], [], qS sw gc I J) (q_hn _ _ _ _) rfl ?_
  refine G_st (L := 89) (k := 1) (1, [some (.ref (2 * k + 89)), some (.int (nI w)), some (.int p)], [.int (nI w)], qS sw gc I J) (q_hn _ _ _ _) rfl ?_
  refine G_if_lt 17 rfl rfl (fun h9 => absurd h9 (nI_nlt (b := 0) (by omega) (by omega))) (fun _ => ?_)
  refine G_st (L := 89) (k := 2) (7, [some (.ref (2 * k + 89)), some (.int (nI w)), some (.int p)], [.int 30, .int (nI w)], qS sw gc I J) (q_hn _ _ _ _) rfl ?_
  refine G_icmp_ge 17 rfl rfl (fun h9 => absurd h9 (nI_ge (b := 30) (by omega) (by decide))) (fun _ => ?_)
  refine G_st (L := 89) (k := 1) (11, [some (.ref (2 * k + 89)), some (.int (nI w)), some (.int p)], [.ref (2 * k + 89)], qS sw gc I J) (q_hn _ _ _ _) rfl ?_
  refine G_get (ci := 1) (k := 0) (i := 2 * k + 89) rfl rfl (q_shG (by omega)).1 (q_ltG (by omega)).1 ?_
  rw [show q_av (qS sw gc I J) (2 * k + 89) (q_fty 1 0) 0 = .ref (2 * k + 90) from congrArg va_rf (@q_rfA sw gc _ (by omega))]
  refine G_st (L := 89) (k := 2) (16, [some (.ref (2 * k + 89)), some (.int (nI w)), some (.int p)], [.int p, .int (nI w), .ref (2 * k + 90)], qS sw gc I J) (q_hn _ _ _ _) rfl ?_
  refine G_iast (i := 2 * k + 90) (n := 30) rfl (q_shG (by omega)).2 (q_ltG (by omega)).2 (vp_in_nI (by omega) (by decide)) ?_
  rw [q_clamp (n := w) (by omega)]
  refine G_st (L := 89) (k := 0) (17, [some (.ref (2 * k + 89)), some (.int (nI w)), some (.int p)], [], qS sw gc (q_u I (2 * k + 90) w p) J) (q_hn _ _ _ _) rfl ?_
  exact G_ret rfl rfl rfl rfl
def x_tk (I : Nat → Nat → Int32) (k w : Nat) : Nat → Nat → Int32 := q_u (q_u (q_u I (2 * k + 89) 4 (nI w)) (2 * k + 89) 5 (I (2 * k + 90) w)) (2 * k + 89) 3 (I (2 * k + 89) 3 + 1)
theorem x_take {d : Nat} {sw : Bool} {gc : Nat} {I : Nat → Nat → Int32} {J : Nat → Nat → Int64} {k : Nat} (hk : k < gc) (hg : gc ≤ 8) {w : Nat} (hw : w < 30) : GM (d + 1) 14 [.ref (2 * k + 89), .int (nI w)] (qS sw gc I J) (none) (qS sw gc (x_tk I k w) J) := by
  refine GM_of (by decide) (Nat.le_refl _) (Nat.le_of_ble_eq_true rfl) trivial ?_
  refine G_st (L := 89) (k := 0) (0, [some (.ref (2 * k + 89)), some (.int (nI w))], [], qS sw gc I J) (q_hn _ _ _ _) rfl ?_
  refine G_st (L := 89) (k := 2) (2, [some (.ref (2 * k + 89)), some (.int (nI w))], [.int (nI w), .ref (2 * k + 89)], qS sw gc I J) (q_hn _ _ _ _) rfl ?_
  refine G_put (ci := 1) (k := 4) (i := 2 * k + 89) (M1 := qS sw gc (q_u I (2 * k + 89) 4 (nI w)) J) rfl rfl (q_shG (by omega)).1 (q_ltG (by omega)).1 rfl rfl rfl ?_
  refine G_st (L := 89) (k := 3) (8, [some (.ref (2 * k + 89)), some (.int (nI w))], [.int (nI w), .ref (2 * k + 89), .ref (2 * k + 89)], qS sw gc (q_u I (2 * k + 89) 4 (nI w)) J) (q_hn _ _ _ _) rfl ?_
  have ha : GM d 12 [.ref (2 * k + 89), .int (nI w)] (qS sw gc (q_u I (2 * k + 89) 4 (nI w)) J) (some (.int (I (2 * k + 90) w))) (qS sw gc (q_u I (2 * k + 89) 4 (nI w)) J) := (show (q_u I (2 * k + 89) 4 (nI w)) (2 * k + 90) w = I (2 * k + 90) w from q_un _ _ (by omega)) ▸ x_askFor (by omega) hg (by omega)
  refine G_callV (b := 2 * k + 89) (ci := 1) (as := [.int (nI w)]) (rest := [.ref (2 * k + 89)]) rfl rfl (q_shG (by omega)).1 (q_ltG (by omega)).1 (by decide) rfl rfl (Nat.le_of_ble_eq_true rfl) ha (Nat.le_refl _) ?_
  refine G_st (L := 89) (k := 0) (11, [some (.ref (2 * k + 89)), some (.int (nI w))], [.int (I (2 * k + 90) w), .ref (2 * k + 89)], qS sw gc (q_u I (2 * k + 89) 4 (nI w)) J) (q_hn _ _ _ _) rfl ?_
  refine G_put (ci := 1) (k := 5) (i := 2 * k + 89) (M1 := qS sw gc (q_u (q_u I (2 * k + 89) 4 (nI w)) (2 * k + 89) 5 (I (2 * k + 90) w)) J) rfl rfl (q_shG (by omega)).1 (q_ltG (by omega)).1 rfl rfl rfl ?_
  refine G_st (L := 89) (k := 2) (16, [some (.ref (2 * k + 89)), some (.int (nI w))], [.ref (2 * k + 89), .ref (2 * k + 89)], qS sw gc (q_u (q_u I (2 * k + 89) 4 (nI w)) (2 * k + 89) 5 (I (2 * k + 90) w)) J) (q_hn _ _ _ _) rfl ?_
  refine G_get (ci := 1) (k := 3) (i := 2 * k + 89) rfl rfl (q_shG (by omega)).1 (q_ltG (by omega)).1 ?_
  rw [show q_av (qS sw gc (q_u (q_u I (2 * k + 89) 4 (nI w)) (2 * k + 89) 5 (I (2 * k + 90) w)) J) (2 * k + 89) (q_fty 1 3) 3 = .int (I (2 * k + 89) 3) from congrArg Value.int ((q_un _ _ (by omega)).trans (q_un _ _ (by omega)))]
  refine G_st (L := 89) (k := 2) (21, [some (.ref (2 * k + 89)), some (.int (nI w))], [.int ((I (2 * k + 89) 3) + 1), .ref (2 * k + 89)], qS sw gc (q_u (q_u I (2 * k + 89) 4 (nI w)) (2 * k + 89) 5 (I (2 * k + 90) w)) J) (q_hn _ _ _ _) rfl ?_
  refine G_put (ci := 1) (k := 3) (i := 2 * k + 89) (M1 := qS sw gc (q_u (q_u (q_u I (2 * k + 89) 4 (nI w)) (2 * k + 89) 5 (I (2 * k + 90) w)) (2 * k + 89) 3 ((I (2 * k + 89) 3) + 1)) J) rfl rfl (q_shG (by omega)).1 (q_ltG (by omega)).1 rfl rfl rfl ?_
  refine G_st (L := 89) (k := 0) (24, [some (.ref (2 * k + 89)), some (.int (nI w))], [], qS sw gc (q_u (q_u (q_u I (2 * k + 89) 4 (nI w)) (2 * k + 89) 5 (I (2 * k + 90) w)) (2 * k + 89) 3 ((I (2 * k + 89) 3) + 1)) J) (q_hn _ _ _ _) rfl ?_
  exact G_ret rfl rfl rfl rfl
def x_fd (a b : Int64) : Int64 := if 0 ≤ lg_cmp (a ^^^ b) 0 then a / b else if lg_cmp (a / b * b) a = 0 then a / b else a / b - 1
theorem x_floorDiv {d : Nat} {M : qM} {a b : Int64} (hb : ¬ b = 0) : GM d 146 [.long a, .long b] (M) (some (.long (x_fd a b))) (M) := by
  refine GM_of (by decide) (Nat.le_refl _) (Nat.le_of_ble_eq_true rfl) trivial ?_
  refine G_st (L := 0) (k := 0) (0, [some (.long a), none, some (.long b), none, none, none], [], M) (Nat.zero_le _) rfl ?_
  refine G_st (L := 0) (k := 2) (2, [some (.long a), none, some (.long b), none, none, none], [.long b, .long a], M) (Nat.zero_le _) rfl ?_
  refine G_ldiv rfl hb ?_
  refine G_st (L := 0) (k := 6) (10, [some (.long a), none, some (.long b), none, some (.long (a / b)), none], [.int (lg_cmp (a ^^^ b) 0)], M) (Nat.zero_le _) rfl ?_
  refine G_if_ge 27 rfl rfl (fun h1 => ?_) (fun h1 => ?_)
  · skip
    refine G_st (L := 0) (k := 1) (29, [some (.long a), none, some (.long b), none, some (.long (a / b)), none], [.long (a / b)], M) (Nat.zero_le _) rfl ?_
    exact G_lret rfl rfl (by rw [x_fd, if_pos h1]) rfl
  · skip
    refine G_st (L := 0) (k := 5) (19, [some (.long a), none, some (.long b), none, some (.long (a / b)), none], [.int (lg_cmp ((a / b) * b) a)], M) (Nat.zero_le _) rfl ?_
    refine G_if_eq 27 rfl rfl (fun h2 => ?_) (fun h2 => ?_)
    · skip
      refine G_st (L := 0) (k := 1) (29, [some (.long a), none, some (.long b), none, some (.long (a / b)), none], [.long (a / b)], M) (Nat.zero_le _) rfl ?_
      exact G_lret rfl rfl (by rw [x_fd, if_neg h1, if_pos h2]) rfl
    · skip
      refine G_st (L := 0) (k := 3) (26, [some (.long a), none, some (.long b), none, some (.long (a / b)), none], [.long ((a / b) - 1)], M) (Nat.zero_le _) rfl ?_
      exact G_lret rfl rfl (by rw [x_fd, if_neg h1, if_neg h2]) rfl
theorem x_shareOf {d : Nat} {sw : Bool} {gc : Nat} {I : Nat → Nat → Int32} {J : Nat → Nat → Int64} {k : Nat} (hk : k < gc) (hg : gc ≤ 8) {n : Int32} (hm1 : ¬ I (2 * k + 89) 1 < 1) (hm : ¬ Int32.toInt64 (I (2 * k + 89) 1) = 0) : GM (d + 1) 16 [.ref (2 * k + 89), .int n] (qS sw gc I J) (some (.int (Int64.toInt32 (x_fd (Int32.toInt64 (I (2 * k + 89) 2) * Int32.toInt64 n) (Int32.toInt64 (I (2 * k + 89) 1)))))) (qS sw gc I J) := by
  refine GM_of (by decide) (Nat.le_refl _) (Nat.le_of_ble_eq_true rfl) trivial ?_
  refine G_st (L := 89) (k := 0) (0, [some (.ref (2 * k + 89)), some (.int n)], [], qS sw gc I J) (q_hn _ _ _ _) rfl ?_
  refine G_st (L := 89) (k := 1) (1, [some (.ref (2 * k + 89)), some (.int n)], [.ref (2 * k + 89)], qS sw gc I J) (q_hn _ _ _ _) rfl ?_
  refine G_get (ci := 1) (k := 1) (i := 2 * k + 89) rfl rfl (q_shG (by omega)).1 (q_ltG (by omega)).1 ?_
  refine G_st (L := 89) (k := 1) (5, [some (.ref (2 * k + 89)), some (.int n)], [.int 1, .int (I (2 * k + 89) 1)], qS sw gc I J) (q_hn _ _ _ _) rfl ?_
  refine G_icmp_ge 12 rfl rfl (fun _ => ?_) (fun h9 => absurd (Int32.not_lt.mp hm1) h9)
  refine G_st (L := 89) (k := 1) (13, [some (.ref (2 * k + 89)), some (.int n)], [.ref (2 * k + 89)], qS sw gc I J) (q_hn _ _ _ _) rfl ?_
  refine G_get (ci := 1) (k := 2) (i := 2 * k + 89) rfl rfl (q_shG (by omega)).1 (q_ltG (by omega)).1 ?_
  refine G_st (L := 89) (k := 5) (21, [some (.ref (2 * k + 89)), some (.int n)], [.ref (2 * k + 89), .long ((Int32.toInt64 (I (2 * k + 89) 2)) * (Int32.toInt64 n))], qS sw gc I J) (q_hn _ _ _ _) rfl ?_
  refine G_get (ci := 1) (k := 1) (i := 2 * k + 89) rfl rfl (q_shG (by omega)).1 (q_ltG (by omega)).1 ?_
  refine G_st (L := 89) (k := 1) (25, [some (.ref (2 * k + 89)), some (.int n)], [.long (Int32.toInt64 (I (2 * k + 89) 1)), .long ((Int32.toInt64 (I (2 * k + 89) 2)) * (Int32.toInt64 n))], qS sw gc I J) (q_hn _ _ _ _) rfl ?_
  refine G_callS (as := [.long ((Int32.toInt64 (I (2 * k + 89) 2)) * (Int32.toInt64 n)), .long (Int32.toInt64 (I (2 * k + 89) 1))]) (rest := []) rfl rfl rfl (Nat.le_of_ble_eq_true rfl) (x_floorDiv hm) (Nat.le_refl _) ?_
  refine G_st (L := 89) (k := 1) (29, [some (.ref (2 * k + 89)), some (.int n)], [.int (Int64.toInt32 (x_fd ((Int32.toInt64 (I (2 * k + 89) 2)) * (Int32.toInt64 n)) (Int32.toInt64 (I (2 * k + 89) 1))))], qS sw gc I J) (q_hn _ _ _ _) rfl ?_
  exact G_iret rfl rfl rfl rfl
def q_fil (I : Nat → Nat → Int32) (r i n : Nat) (v : Int32) : Nat → Nat → Int32 := fun a b => if a = r ∧ i ≤ b ∧ b < n then v else I a b
theorem q_fil_step (I : Nat → Nat → Int32) {r i n : Nat} (v : Int32) (h : i < n) : q_fil (q_u I r i v) r (i + 1) n v = q_fil I r i n v := by
  funext a b
  unfold q_fil q_u
  by_cases h1 : a = r ∧ b = i
  · rw [if_pos h1, if_pos (show a = r ∧ i ≤ b ∧ b < n by omega)]; split <;> rfl
  · rw [if_neg h1]
    by_cases h2 : a = r ∧ i + 1 ≤ b ∧ b < n
    · rw [if_pos h2, if_pos (by omega)]
    · rw [if_neg h2, if_neg (by omega)]
theorem q_fil_end (I : Nat → Nat → Int32) (r n : Nat) (v : Int32) : q_fil I r n n v = I := by
  funext a b
  unfold q_fil
  rw [if_neg (by omega)]
theorem x_fillA_loop {d : Nat} {sw : Bool} {gc : Nat} {J : Nat → Nat → Int64} {v : Int32} {k : Nat} (hk : k < gc) (hg : gc ≤ 8) : ∀ (n i : Nat) (I : Nat → Nat → Int32), i + n = 30 → G d 159 (5, [some (.ref (2 * k + 90)), some (.int v), some (.int (nI i)), some (.int 30)], [], qS sw gc I J) none (qS sw gc (q_fil I (2 * k + 90) i 30 v) J) := by
  intro n
  induction n with
  | zero =>
    intro i I h
    obtain rfl : i = 30 := by omega
    rw [q_fil_end]
    refine G_st (L := 89) (k := 2) (7, [some (.ref (2 * k + 90)), some (.int v), some (.int 30), some (.int 30)], [.int 30, .int 30], qS sw gc I J) (q_hn _ _ _ _) rfl ?_
    refine G_icmp_ge 20 rfl rfl (fun _ => ?_) (fun h9 => absurd h9 (by decide))
    exact G_ret rfl rfl rfl rfl
  | succ n ih =>
    intro i I h
    rw [← q_fil_step I v (by omega)]
    refine G_st (L := 89) (k := 2) (7, [some (.ref (2 * k + 90)), some (.int v), some (.int (nI i)), some (.int 30)], [.int 30, .int (nI i)], qS sw gc I J) (q_hn _ _ _ _) rfl ?_
    refine G_icmp_ge 20 rfl rfl (fun h9 => absurd h9 (nI_ge (b := 30) (by omega) (by decide))) (fun _ => ?_)
    refine G_st (L := 89) (k := 3) (13, [some (.ref (2 * k + 90)), some (.int v), some (.int (nI i)), some (.int 30)], [.int v, .int (nI i), .ref (2 * k + 90)], qS sw gc I J) (q_hn _ _ _ _) rfl ?_
    refine G_iast (i := 2 * k + 90) (n := 30) rfl (q_shG (by omega)).2 (q_ltG (by omega)).2 (vp_in_nI (by omega) (by decide)) ?_
    rw [q_clamp (n := i) (by omega)]
    refine G_st (L := 89) (k := 2) (5, [some (.ref (2 * k + 90)), some (.int v), some (.int ((nI i) + 1)), some (.int 30)], [], qS sw gc (q_u I (2 * k + 90) i v) J) (q_hn _ _ _ _) rfl ?_
    rw [show (nI i) + 1 = nI (i + 1) from (q_addP rfl rfl)]
    exact ih (i + 1) _ (by omega)
theorem x_fillA {d : Nat} {sw : Bool} {gc : Nat} {I : Nat → Nat → Int32} {J : Nat → Nat → Int64} {v : Int32} {k : Nat} (hk : k < gc) (hg : gc ≤ 8) : GM d 159 [.ref (2 * k + 90), .int v] (qS sw gc I J) (none) (qS sw gc (q_fil I (2 * k + 90) 0 30 v) J) := by
  refine GM_of (by decide) (Nat.le_refl _) (Nat.le_of_ble_eq_true rfl) trivial ?_
  refine G_st (L := 89) (k := 0) (0, [some (.ref (2 * k + 90)), some (.int v), none, none], [], qS sw gc I J) (q_hn _ _ _ _) rfl ?_
  refine G_st (L := 89) (k := 3) (3, [some (.ref (2 * k + 90)), some (.int v), some (.int 0), none], [.ref (2 * k + 90)], qS sw gc I J) (q_hn _ _ _ _) rfl ?_
  refine G_alen (t := 0) (n := 30) (x := 30) rfl (q_shG (by omega)).2 (by decide) (q_ltG (by omega)).2 rfl ?_
  refine G_st (L := 89) (k := 1) (5, [some (.ref (2 * k + 90)), some (.int v), some (.int 0), some (.int 30)], [], qS sw gc I J) (q_hn _ _ _ _) rfl ?_
  exact x_fillA_loop hk hg 30 0 I rfl
def x_em (I : Nat → Nat → Int32) (k : Nat) : Nat → Nat → Int32 := q_u (q_u (q_u (q_fil I (2 * k + 90) 0 30 (-4)) (2 * k + 89) 4 (-4)) (2 * k + 89) 5 0) (2 * k + 89) 7 0
theorem x_endMonth {d : Nat} {sw : Bool} {gc : Nat} {I : Nat → Nat → Int32} {J : Nat → Nat → Int64} {k : Nat} (hk : k < gc) (hg : gc ≤ 8) : GM (d + 1) 15 [.ref (2 * k + 89)] (qS sw gc I J) (none) (qS sw gc (x_em I k) J) := by
  refine GM_of (by decide) (Nat.le_refl _) (Nat.le_of_ble_eq_true rfl) trivial ?_
  refine G_st (L := 89) (k := 0) (0, [some (.ref (2 * k + 89))], [], qS sw gc I J) (q_hn _ _ _ _) rfl ?_
  refine G_st (L := 89) (k := 1) (1, [some (.ref (2 * k + 89))], [.ref (2 * k + 89)], qS sw gc I J) (q_hn _ _ _ _) rfl ?_
  refine G_get (ci := 1) (k := 0) (i := 2 * k + 89) rfl rfl (q_shG (by omega)).1 (q_ltG (by omega)).1 ?_
  rw [show q_av (qS sw gc I J) (2 * k + 89) (q_fty 1 0) 0 = .ref (2 * k + 90) from congrArg va_rf (@q_rfA sw gc _ (by omega))]
  refine G_st (L := 89) (k := 1) (6, [some (.ref (2 * k + 89))], [.int (-4), .ref (2 * k + 90)], qS sw gc I J) (q_hn _ _ _ _) rfl ?_
  refine G_callS (as := [.ref (2 * k + 90), .int (-4)]) (rest := []) rfl rfl rfl (Nat.le_of_ble_eq_true rfl) (x_fillA hk hg) (Nat.le_refl _) ?_
  refine G_st (L := 89) (k := 2) (12, [some (.ref (2 * k + 89))], [.int (-4), .ref (2 * k + 89)], qS sw gc (q_fil I (2 * k + 90) 0 30 (-4)) J) (q_hn _ _ _ _) rfl ?_
  refine G_put (ci := 1) (k := 4) (i := 2 * k + 89) (M1 := qS sw gc (q_u (q_fil I (2 * k + 90) 0 30 (-4)) (2 * k + 89) 4 (-4)) J) rfl rfl (q_shG (by omega)).1 (q_ltG (by omega)).1 rfl rfl rfl ?_
  refine G_st (L := 89) (k := 2) (17, [some (.ref (2 * k + 89))], [.int 0, .ref (2 * k + 89)], qS sw gc (q_u (q_fil I (2 * k + 90) 0 30 (-4)) (2 * k + 89) 4 (-4)) J) (q_hn _ _ _ _) rfl ?_
  refine G_put (ci := 1) (k := 5) (i := 2 * k + 89) (M1 := qS sw gc (q_u (q_u (q_fil I (2 * k + 90) 0 30 (-4)) (2 * k + 89) 4 (-4)) (2 * k + 89) 5 0) J) rfl rfl (q_shG (by omega)).1 (q_ltG (by omega)).1 rfl rfl rfl ?_
  refine G_st (L := 89) (k := 2) (22, [some (.ref (2 * k + 89))], [.int 0, .ref (2 * k + 89)], qS sw gc (q_u (q_u (q_fil I (2 * k + 90) 0 30 (-4)) (2 * k + 89) 4 (-4)) (2 * k + 89) 5 0) J) (q_hn _ _ _ _) rfl ?_
  refine G_put (ci := 1) (k := 7) (i := 2 * k + 89) (M1 := qS sw gc (q_u (q_u (q_u (q_fil I (2 * k + 90) 0 30 (-4)) (2 * k + 89) 4 (-4)) (2 * k + 89) 5 0) (2 * k + 89) 7 0) J) rfl rfl (q_shG (by omega)).1 (q_ltG (by omega)).1 rfl rfl rfl ?_
  refine G_st (L := 89) (k := 0) (25, [some (.ref (2 * k + 89))], [], qS sw gc (q_u (q_u (q_u (q_fil I (2 * k + 90) 0 30 (-4)) (2 * k + 89) 4 (-4)) (2 * k + 89) 5 0) (2 * k + 89) 7 0) J) (q_hn _ _ _ _) rfl ?_
  exact G_ret rfl rfl rfl rfl
def x_tp (I : Nat → Nat → Int32) (k : Nat) (p t : Int32) : Nat → Nat → Int32 := if (I (2 * k + 89) 7) = 0 then q_u (q_u (q_u (q_u I (2 * k + 89) 2 ((I (2 * k + 89) 2) + p)) (2 * k + 89) 2 (((I (2 * k + 89) 2) + p) - (t * (I (2 * k + 89) 1)))) (2 * k + 89) 7 1) (2 * k + 89) 6 ((I (2 * k + 89) 6) + 1) else q_u (q_u I (2 * k + 89) 2 ((I (2 * k + 89) 2) + p)) (2 * k + 89) 6 ((I (2 * k + 89) 6) + 1)
theorem x_takePay {d : Nat} {sw : Bool} {gc : Nat} {I : Nat → Nat → Int32} {J : Nat → Nat → Int64} {k : Nat} (hk : k < gc) (hg : gc ≤ 8) {p t : Int32} : GM d 17 [.ref (2 * k + 89), .int p, .int t] (qS sw gc I J) (none) (qS sw gc (x_tp I k p t) J) := by
  refine GM_of (by decide) (Nat.le_refl _) (Nat.le_of_ble_eq_true rfl) trivial ?_
  refine G_st (L := 89) (k := 0) (0, [some (.ref (2 * k + 89)), some (.int p), some (.int t)], [], qS sw gc I J) (q_hn _ _ _ _) rfl ?_
  refine G_st (L := 89) (k := 2) (2, [some (.ref (2 * k + 89)), some (.int p), some (.int t)], [.ref (2 * k + 89), .ref (2 * k + 89)], qS sw gc I J) (q_hn _ _ _ _) rfl ?_
  refine G_get (ci := 1) (k := 2) (i := 2 * k + 89) rfl rfl (q_shG (by omega)).1 (q_ltG (by omega)).1 ?_
  refine G_st (L := 89) (k := 2) (7, [some (.ref (2 * k + 89)), some (.int p), some (.int t)], [.int ((I (2 * k + 89) 2) + p), .ref (2 * k + 89)], qS sw gc I J) (q_hn _ _ _ _) rfl ?_
  refine G_put (ci := 1) (k := 2) (i := 2 * k + 89) (M1 := qS sw gc (q_u I (2 * k + 89) 2 ((I (2 * k + 89) 2) + p)) J) rfl rfl (q_shG (by omega)).1 (q_ltG (by omega)).1 rfl rfl rfl ?_
  refine G_st (L := 89) (k := 1) (11, [some (.ref (2 * k + 89)), some (.int p), some (.int t)], [.ref (2 * k + 89)], qS sw gc (q_u I (2 * k + 89) 2 ((I (2 * k + 89) 2) + p)) J) (q_hn _ _ _ _) rfl ?_
  refine G_get (ci := 1) (k := 7) (i := 2 * k + 89) rfl rfl (q_shG (by omega)).1 (q_ltG (by omega)).1 ?_
  rw [show q_av (qS sw gc (q_u I (2 * k + 89) 2 ((I (2 * k + 89) 2) + p)) J) (2 * k + 89) (q_fty 1 7) 7 = .int (I (2 * k + 89) 7) from congrArg Value.int (q_un _ _ (by omega))]
  refine G_st (L := 89) (k := 0) (14, [some (.ref (2 * k + 89)), some (.int p), some (.int t)], [.int (I (2 * k + 89) 7)], qS sw gc (q_u I (2 * k + 89) 2 ((I (2 * k + 89) 2) + p)) J) (q_hn _ _ _ _) rfl ?_
  refine G_if_ne 37 rfl rfl (fun h1 => ?_) (fun h1 => ?_)
  · skip
    refine G_st (L := 89) (k := 2) (39, [some (.ref (2 * k + 89)), some (.int p), some (.int t)], [.ref (2 * k + 89), .ref (2 * k + 89)], qS sw gc (q_u I (2 * k + 89) 2 ((I (2 * k + 89) 2) + p)) J) (q_hn _ _ _ _) rfl ?_
    refine G_get (ci := 1) (k := 6) (i := 2 * k + 89) rfl rfl (q_shG (by omega)).1 (q_ltG (by omega)).1 ?_
    rw [show q_av (qS sw gc (q_u I (2 * k + 89) 2 ((I (2 * k + 89) 2) + p)) J) (2 * k + 89) (q_fty 1 6) 6 = .int (I (2 * k + 89) 6) from congrArg Value.int (q_un _ _ (by omega))]
    refine G_st (L := 89) (k := 2) (44, [some (.ref (2 * k + 89)), some (.int p), some (.int t)], [.int ((I (2 * k + 89) 6) + 1), .ref (2 * k + 89)], qS sw gc (q_u I (2 * k + 89) 2 ((I (2 * k + 89) 2) + p)) J) (q_hn _ _ _ _) rfl ?_
    refine G_put (ci := 1) (k := 6) (i := 2 * k + 89) (M1 := qS sw gc (q_u (q_u I (2 * k + 89) 2 ((I (2 * k + 89) 2) + p)) (2 * k + 89) 6 ((I (2 * k + 89) 6) + 1)) J) rfl rfl (q_shG (by omega)).1 (q_ltG (by omega)).1 rfl rfl rfl ?_
    refine G_st (L := 89) (k := 0) (47, [some (.ref (2 * k + 89)), some (.int p), some (.int t)], [], qS sw gc (q_u (q_u I (2 * k + 89) 2 ((I (2 * k + 89) 2) + p)) (2 * k + 89) 6 ((I (2 * k + 89) 6) + 1)) J) (q_hn _ _ _ _) rfl ?_
    exact G_ret rfl rfl rfl (by rw [x_tp, if_neg h1])
  · skip
    refine G_st (L := 89) (k := 2) (19, [some (.ref (2 * k + 89)), some (.int p), some (.int t)], [.ref (2 * k + 89), .ref (2 * k + 89)], qS sw gc (q_u I (2 * k + 89) 2 ((I (2 * k + 89) 2) + p)) J) (q_hn _ _ _ _) rfl ?_
    refine G_get (ci := 1) (k := 2) (i := 2 * k + 89) rfl rfl (q_shG (by omega)).1 (q_ltG (by omega)).1 ?_
    rw [show q_av (qS sw gc (q_u I (2 * k + 89) 2 ((I (2 * k + 89) 2) + p)) J) (2 * k + 89) (q_fty 1 2) 2 = .int ((I (2 * k + 89) 2) + p) from congrArg Value.int (q_us _ _ _ _)]
    refine G_st (L := 89) (k := 2) (24, [some (.ref (2 * k + 89)), some (.int p), some (.int t)], [.ref (2 * k + 89), .int t, .int ((I (2 * k + 89) 2) + p), .ref (2 * k + 89)], qS sw gc (q_u I (2 * k + 89) 2 ((I (2 * k + 89) 2) + p)) J) (q_hn _ _ _ _) rfl ?_
    refine G_get (ci := 1) (k := 1) (i := 2 * k + 89) rfl rfl (q_shG (by omega)).1 (q_ltG (by omega)).1 ?_
    rw [show q_av (qS sw gc (q_u I (2 * k + 89) 2 ((I (2 * k + 89) 2) + p)) J) (2 * k + 89) (q_fty 1 1) 1 = .int (I (2 * k + 89) 1) from congrArg Value.int (q_un _ _ (by omega))]
    refine G_st (L := 89) (k := 2) (29, [some (.ref (2 * k + 89)), some (.int p), some (.int t)], [.int (((I (2 * k + 89) 2) + p) - (t * (I (2 * k + 89) 1))), .ref (2 * k + 89)], qS sw gc (q_u I (2 * k + 89) 2 ((I (2 * k + 89) 2) + p)) J) (q_hn _ _ _ _) rfl ?_
    refine G_put (ci := 1) (k := 2) (i := 2 * k + 89) (M1 := qS sw gc (q_u (q_u I (2 * k + 89) 2 ((I (2 * k + 89) 2) + p)) (2 * k + 89) 2 (((I (2 * k + 89) 2) + p) - (t * (I (2 * k + 89) 1)))) J) rfl rfl (q_shG (by omega)).1 (q_ltG (by omega)).1 rfl rfl rfl ?_
    refine G_st (L := 89) (k := 2) (34, [some (.ref (2 * k + 89)), some (.int p), some (.int t)], [.int 1, .ref (2 * k + 89)], qS sw gc (q_u (q_u I (2 * k + 89) 2 ((I (2 * k + 89) 2) + p)) (2 * k + 89) 2 (((I (2 * k + 89) 2) + p) - (t * (I (2 * k + 89) 1)))) J) (q_hn _ _ _ _) rfl ?_
    refine G_put (ci := 1) (k := 7) (i := 2 * k + 89) (M1 := qS sw gc (q_u (q_u (q_u I (2 * k + 89) 2 ((I (2 * k + 89) 2) + p)) (2 * k + 89) 2 (((I (2 * k + 89) 2) + p) - (t * (I (2 * k + 89) 1)))) (2 * k + 89) 7 1) J) rfl rfl (q_shG (by omega)).1 (q_ltG (by omega)).1 rfl rfl rfl ?_
    refine G_st (L := 89) (k := 2) (39, [some (.ref (2 * k + 89)), some (.int p), some (.int t)], [.ref (2 * k + 89), .ref (2 * k + 89)], qS sw gc (q_u (q_u (q_u I (2 * k + 89) 2 ((I (2 * k + 89) 2) + p)) (2 * k + 89) 2 (((I (2 * k + 89) 2) + p) - (t * (I (2 * k + 89) 1)))) (2 * k + 89) 7 1) J) (q_hn _ _ _ _) rfl ?_
    refine G_get (ci := 1) (k := 6) (i := 2 * k + 89) rfl rfl (q_shG (by omega)).1 (q_ltG (by omega)).1 ?_
    rw [show q_av (qS sw gc (q_u (q_u (q_u I (2 * k + 89) 2 ((I (2 * k + 89) 2) + p)) (2 * k + 89) 2 (((I (2 * k + 89) 2) + p) - (t * (I (2 * k + 89) 1)))) (2 * k + 89) 7 1) J) (2 * k + 89) (q_fty 1 6) 6 = .int (I (2 * k + 89) 6) from congrArg Value.int ((q_un _ _ (by omega)).trans ((q_un _ _ (by omega)).trans (q_un _ _ (by omega))))]
    refine G_st (L := 89) (k := 2) (44, [some (.ref (2 * k + 89)), some (.int p), some (.int t)], [.int ((I (2 * k + 89) 6) + 1), .ref (2 * k + 89)], qS sw gc (q_u (q_u (q_u I (2 * k + 89) 2 ((I (2 * k + 89) 2) + p)) (2 * k + 89) 2 (((I (2 * k + 89) 2) + p) - (t * (I (2 * k + 89) 1)))) (2 * k + 89) 7 1) J) (q_hn _ _ _ _) rfl ?_
    refine G_put (ci := 1) (k := 6) (i := 2 * k + 89) (M1 := qS sw gc (q_u (q_u (q_u (q_u I (2 * k + 89) 2 ((I (2 * k + 89) 2) + p)) (2 * k + 89) 2 (((I (2 * k + 89) 2) + p) - (t * (I (2 * k + 89) 1)))) (2 * k + 89) 7 1) (2 * k + 89) 6 ((I (2 * k + 89) 6) + 1)) J) rfl rfl (q_shG (by omega)).1 (q_ltG (by omega)).1 rfl rfl rfl ?_
    refine G_st (L := 89) (k := 0) (47, [some (.ref (2 * k + 89)), some (.int p), some (.int t)], [], qS sw gc (q_u (q_u (q_u (q_u I (2 * k + 89) 2 ((I (2 * k + 89) 2) + p)) (2 * k + 89) 2 (((I (2 * k + 89) 2) + p) - (t * (I (2 * k + 89) 1)))) (2 * k + 89) 7 1) (2 * k + 89) 6 ((I (2 * k + 89) 6) + 1)) J) (q_hn _ _ _ _) rfl ?_
    exact G_ret rfl rfl rfl (by rw [x_tp, if_pos h1])
end
section
def x_nth (I : Nat → Nat → Int32) (k : Nat) : Bool := decide (I (2 * k + 54) 2 = (-4))
theorem x_isNothing {d : Nat} {sw : Bool} {gc : Nat} {I : Nat → Nat → Int32} {J : Nat → Nat → Int64} {k : Nat} (hk : k < 4) : GM d 55 [.ref (2 * k + 54)] (qS sw gc I J) (some (.int (q_b (x_nth I k)))) (qS sw gc I J) := by
  refine GM_of (by decide) (Nat.le_refl _) (Nat.le_of_ble_eq_true rfl) q_bn ?_
  refine G_st (L := 89) (k := 0) (0, [some (.ref (2 * k + 54))], [], qS sw gc I J) (q_hn _ _ _ _) rfl ?_
  refine G_st (L := 89) (k := 1) (1, [some (.ref (2 * k + 54))], [.ref (2 * k + 54)], qS sw gc I J) (q_hn _ _ _ _) rfl ?_
  refine G_get (ci := 5) (k := 2) (i := 2 * k + 54) rfl rfl (q_shS (by omega)).1 (q_ltS (by omega)).1 ?_
  refine G_st (L := 89) (k := 1) (6, [some (.ref (2 * k + 54))], [.int (-4), .int (I (2 * k + 54) 2)], qS sw gc I J) (q_hn _ _ _ _) rfl ?_
  refine G_icmp_ne 13 rfl rfl (fun h1 => ?_) (fun h1 => ?_)
  · skip
    refine G_st (L := 89) (k := 1) (14, [some (.ref (2 * k + 54))], [.int 0], qS sw gc I J) (q_hn _ _ _ _) rfl ?_
    exact G_iret rfl rfl (by rw [x_nth, decide_eq_false h1]; rfl) rfl
  · skip
    refine G_st (L := 89) (k := 2) (14, [some (.ref (2 * k + 54))], [.int 1], qS sw gc I J) (q_hn _ _ _ _) rfl ?_
    exact G_iret rfl rfl (by rw [x_nth, decide_eq_true h1]; rfl) rfl
def x_hc (n : Int32) (i : Int64) : Bool := !decide (i < 0) && (!decide (Int32.toInt64 n ≤ i) && !decide (60 ≤ i))
theorem x_hasCell {d : Nat} {sw : Bool} {gc : Nat} {I : Nat → Nat → Int32} {J : Nat → Nat → Int64} {k : Nat} (hk : k < 4) {i : Int64} : GM d 57 [.ref (2 * k + 54), .long i] (qS sw gc I J) (some (.int (q_b (x_hc (I (2 * k + 54) 1) i)))) (qS sw gc I J) := by
  refine GM_of (by decide) (Nat.le_refl _) (Nat.le_of_ble_eq_true rfl) q_bn ?_
  refine G_st (L := 89) (k := 0) (0, [some (.ref (2 * k + 54)), some (.long i), none], [], qS sw gc I J) (q_hn _ _ _ _) rfl ?_
  refine G_st (L := 89) (k := 3) (3, [some (.ref (2 * k + 54)), some (.long i), none], [.int (lg_cmp i 0)], qS sw gc I J) (q_hn _ _ _ _) rfl ?_
  refine G_if_lt 28 rfl rfl (fun h1 => ?_) (fun h1 => ?_)
  · skip
    refine G_st (L := 89) (k := 1) (29, [some (.ref (2 * k + 54)), some (.long i), none], [.int 0], qS sw gc I J) (q_hn _ _ _ _) rfl ?_
    exact G_iret rfl rfl (by unfold x_hc; rw [decide_eq_true ((q_cmp_lt _ _).mp h1)]; simp only [Bool.not_true, Bool.not_false, Bool.false_and, Bool.true_and, Bool.and_false]; rfl) rfl
  · skip
    refine G_st (L := 89) (k := 2) (8, [some (.ref (2 * k + 54)), some (.long i), none], [.ref (2 * k + 54), .long i], qS sw gc I J) (q_hn _ _ _ _) rfl ?_
    refine G_get (ci := 5) (k := 1) (i := 2 * k + 54) rfl rfl (q_shS (by omega)).1 (q_ltS (by omega)).1 ?_
    refine G_st (L := 89) (k := 2) (13, [some (.ref (2 * k + 54)), some (.long i), none], [.int (lg_cmp i (Int32.toInt64 (I (2 * k + 54) 1)))], qS sw gc I J) (q_hn _ _ _ _) rfl ?_
    refine G_if_ge 28 rfl rfl (fun h2 => ?_) (fun h2 => ?_)
    · skip
      refine G_st (L := 89) (k := 1) (29, [some (.ref (2 * k + 54)), some (.long i), none], [.int 0], qS sw gc I J) (q_hn _ _ _ _) rfl ?_
      exact G_iret rfl rfl (by unfold x_hc; rw [decide_eq_false (fun z => h1 ((q_cmp_lt _ _).mpr z)), decide_eq_true ((q_cmp_ge _ _).mp h2)]; simp only [Bool.not_true, Bool.not_false, Bool.false_and, Bool.true_and, Bool.and_false]; rfl) rfl
    · skip
      refine G_st (L := 89) (k := 3) (21, [some (.ref (2 * k + 54)), some (.long i), none], [.int (lg_cmp i 60)], qS sw gc I J) (q_hn _ _ _ _) rfl ?_
      refine G_if_ge 28 rfl rfl (fun h3 => ?_) (fun h3 => ?_)
      · skip
        refine G_st (L := 89) (k := 1) (29, [some (.ref (2 * k + 54)), some (.long i), none], [.int 0], qS sw gc I J) (q_hn _ _ _ _) rfl ?_
        exact G_iret rfl rfl (by unfold x_hc; rw [decide_eq_false (fun z => h1 ((q_cmp_lt _ _).mpr z)), decide_eq_false (fun z => h2 ((q_cmp_ge _ _).mpr z)), decide_eq_true ((q_cmp_ge _ _).mp h3)]; simp only [Bool.not_true, Bool.not_false, Bool.false_and, Bool.true_and, Bool.and_false]; rfl) rfl
      · skip
        refine G_st (L := 89) (k := 2) (29, [some (.ref (2 * k + 54)), some (.long i), none], [.int 1], qS sw gc I J) (q_hn _ _ _ _) rfl ?_
        exact G_iret rfl rfl (by unfold x_hc; rw [decide_eq_false (fun z => h1 ((q_cmp_lt _ _).mpr z)), decide_eq_false (fun z => h2 ((q_cmp_ge _ _).mpr z)), decide_eq_false (fun z => h3 ((q_cmp_ge _ _).mpr z))]; rfl) rfl
theorem x_hc_in {n j : Nat} (h1 : j < n) (h2 : n ≤ 60) : x_hc (nI n) (lN j) = true := by
  unfold x_hc
  rw [nI_l (by omega)]
  rw [decide_eq_false (show ¬ lN j < 0 from fun z => by rw [show (0 : Int64) = lN 0 from rfl, lN_lt (by omega) (by decide)] at z; omega)]
  rw [decide_eq_false (show ¬ lN n ≤ lN j from fun z => by rw [lN_le (by omega) (by omega)] at z; omega)]
  rw [decide_eq_false (show ¬ (60 : Int64) ≤ lN j from fun z => by rw [show (60 : Int64) = lN 60 from rfl, lN_le (by decide) (by omega)] at z; omega)]
  rfl
theorem x_hc_out {n : Nat} {i : Int64} (h2 : n ≤ 60) (h : i < 0 ∨ lN n ≤ i) : x_hc (nI n) i = false := by
  unfold x_hc
  rcases h with h | h
  · rw [decide_eq_true h]; rfl
  · rw [nI_l (by omega), decide_eq_true h]
    simp only [Bool.not_true, Bool.false_and, Bool.and_false]
theorem q_li (j : Nat) : (lN j).toInt32 = nI j := lN_i j
def x_cut (l : Int32) (v : Int64) : Int64 := if l = 0 then Int32.toInt64 (Int8.toInt32 (Int32.toInt8 (Int64.toInt32 v))) else if l = 1 then Int32.toInt64 (Int16.toInt32 (Int32.toInt16 (Int64.toInt32 v))) else v
theorem x_cutToLane {d : Nat} {sw : Bool} {gc : Nat} {I : Nat → Nat → Int32} {J : Nat → Nat → Int64} {k : Nat} (hk : k < 4) {v : Int64} : GM d 59 [.ref (2 * k + 54), .long v] (qS sw gc I J) (some (.long (x_cut (I (2 * k + 54) 2) v))) (qS sw gc I J) := by
  refine GM_of (by decide) (Nat.le_refl _) (Nat.le_of_ble_eq_true rfl) trivial ?_
  refine G_st (L := 89) (k := 0) (0, [some (.ref (2 * k + 54)), some (.long v), none], [], qS sw gc I J) (q_hn _ _ _ _) rfl ?_
  refine G_st (L := 89) (k := 1) (1, [some (.ref (2 * k + 54)), some (.long v), none], [.ref (2 * k + 54)], qS sw gc I J) (q_hn _ _ _ _) rfl ?_
  refine G_get (ci := 5) (k := 2) (i := 2 * k + 54) rfl rfl (q_shS (by omega)).1 (q_ltS (by omega)).1 ?_
  refine G_st (L := 89) (k := 0) (4, [some (.ref (2 * k + 54)), some (.long v), none], [.int (I (2 * k + 54) 2)], qS sw gc I J) (q_hn _ _ _ _) rfl ?_
  by_cases h1 : (I (2 * k + 54) 2) = 0
  · refine G_ls 32 rfl (by decide) (off := 28) (by rw [h1]; rfl) rfl ?_
    refine G_st (L := 89) (k := 4) (36, [some (.ref (2 * k + 54)), some (.long v), none], [.long (Int32.toInt64 (Int8.toInt32 (Int32.toInt8 (Int64.toInt32 v))))], qS sw gc I J) (q_hn _ _ _ _) rfl ?_
    exact G_lret rfl rfl (by rw [x_cut, if_pos h1]) rfl
  · by_cases h2 : (I (2 * k + 54) 2) = 1
    · refine G_ls 37 rfl (by decide) (off := 33) (by rw [h2]; rfl) rfl ?_
      refine G_st (L := 89) (k := 4) (41, [some (.ref (2 * k + 54)), some (.long v), none], [.long (Int32.toInt64 (Int16.toInt32 (Int32.toInt16 (Int64.toInt32 v))))], qS sw gc I J) (q_hn _ _ _ _) rfl ?_
      exact G_lret rfl rfl (by rw [x_cut, if_neg h1, if_pos h2]) rfl
    · refine G_ls 42 rfl (by decide) (off := 38) ((lv_osw h1 rfl).trans ((lv_osw h2 rfl).trans rfl)) rfl ?_
      refine G_st (L := 89) (k := 1) (43, [some (.ref (2 * k + 54)), some (.long v), none], [.long v], qS sw gc I J) (q_hn _ _ _ _) rfl ?_
      exact G_lret rfl rfl (by rw [x_cut, if_neg h1, if_neg h2]) rfl
theorem x_setCell {d : Nat} {sw : Bool} {gc : Nat} {I : Nat → Nat → Int32} {J : Nat → Nat → Int64} {k : Nat} (hk : k < 4) {n j : Nat} (hn : I (2 * k + 54) 1 = nI n) (hn60 : n ≤ 60) (hj : j < n) {v : Int64} : GM (d + 1) 58 [.ref (2 * k + 54), .int (nI j), .long v] (qS sw gc I J) (none) (qS sw gc I (q_u J (2 * k + 55) j (x_cut (I (2 * k + 54) 2) v))) := by
  refine GM_of (by decide) (Nat.le_refl _) (Nat.le_of_ble_eq_true rfl) trivial ?_
  refine G_st (L := 89) (k := 0) (0, [some (.ref (2 * k + 54)), some (.int (nI j)), some (.long v), none], [], qS sw gc I J) (q_hn _ _ _ _) rfl ?_
  refine G_st (L := 89) (k := 3) (3, [some (.ref (2 * k + 54)), some (.int (nI j)), some (.long v), none], [.long (Int32.toInt64 (nI j)), .ref (2 * k + 54)], qS sw gc I J) (q_hn _ _ _ _) rfl ?_
  rw [show Int32.toInt64 (nI j) = lN j from (q_i2lP rfl (by omega))]
  have hc9 := x_hasCell (d := d) (sw := sw) (gc := gc) (I := I) (J := J) hk (i := lN j)
  rw [hn, x_hc_in hj hn60] at hc9
  refine G_callV (b := 2 * k + 54) (ci := 5) (as := [.long (lN j)]) (rest := []) rfl rfl (q_shS (by omega)).1 (q_ltS (by omega)).1 (by decide) rfl rfl (Nat.le_of_ble_eq_true rfl) hc9 (Nat.le_refl _) ?_
  refine G_st (L := 89) (k := 0) (6, [some (.ref (2 * k + 54)), some (.int (nI j)), some (.long v), none], [.int 1], qS sw gc I J) (q_hn _ _ _ _) rfl ?_
  refine G_if_eq 20 rfl rfl (fun h9 => absurd h9 (by decide)) (fun _ => ?_)
  refine G_st (L := 89) (k := 1) (10, [some (.ref (2 * k + 54)), some (.int (nI j)), some (.long v), none], [.ref (2 * k + 54)], qS sw gc I J) (q_hn _ _ _ _) rfl ?_
  refine G_get (ci := 5) (k := 0) (i := 2 * k + 54) rfl rfl (q_shS (by omega)).1 (q_ltS (by omega)).1 ?_
  rw [show q_av (qS sw gc I J) (2 * k + 54) (q_fty 5 0) 0 = .ref (2 * k + 55) from congrArg va_rf (@q_rfS sw gc _ (by omega)).2]
  refine G_st (L := 89) (k := 3) (16, [some (.ref (2 * k + 54)), some (.int (nI j)), some (.long v), none], [.long v, .ref (2 * k + 54), .int (nI j), .ref (2 * k + 55)], qS sw gc I J) (q_hn _ _ _ _) rfl ?_
  refine G_callV (b := 2 * k + 54) (ci := 5) (as := [.long v]) (rest := [.int (nI j), .ref (2 * k + 55)]) rfl rfl (q_shS (by omega)).1 (q_ltS (by omega)).1 (by decide) rfl rfl (Nat.le_of_ble_eq_true rfl) (x_cutToLane hk) (Nat.le_refl _) ?_
  refine G_st (L := 89) (k := 0) (19, [some (.ref (2 * k + 54)), some (.int (nI j)), some (.long v), none], [.long (x_cut (I (2 * k + 54) 2) v), .int (nI j), .ref (2 * k + 55)], qS sw gc I J) (q_hn _ _ _ _) rfl ?_
  refine G_last (i := 2 * k + 55) (n := 60) rfl (q_shS (by omega)).2 (q_ltS (by omega)).2 (vp_in_nI (by omega) (by decide)) ?_
  rw [q_clamp (n := j) (by omega)]
  refine G_st (L := 89) (k := 0) (20, [some (.ref (2 * k + 54)), some (.int (nI j)), some (.long v), none], [], qS sw gc I (q_u J (2 * k + 55) j (x_cut (I (2 * k + 54) 2) v))) (q_hn _ _ _ _) rfl ?_
  exact G_ret rfl rfl rfl rfl
theorem x_cellAt {d : Nat} {sw : Bool} {gc : Nat} {I : Nat → Nat → Int32} {J : Nat → Nat → Int64} {k : Nat} (hk : k < 4) {n j : Nat} (hn : I (2 * k + 54) 1 = nI n) (hn60 : n ≤ 60) (hj : j < n) : GM (d + 1) 60 [.ref (2 * k + 54), .long (lN j)] (qS sw gc I J) (some (.long (J (2 * k + 55) j))) (qS sw gc I J) := by
  refine GM_of (by decide) (Nat.le_refl _) (Nat.le_of_ble_eq_true rfl) trivial ?_
  refine G_st (L := 89) (k := 0) (0, [some (.ref (2 * k + 54)), some (.long (lN j)), none], [], qS sw gc I J) (q_hn _ _ _ _) rfl ?_
  refine G_st (L := 89) (k := 2) (2, [some (.ref (2 * k + 54)), some (.long (lN j)), none], [.long (lN j), .ref (2 * k + 54)], qS sw gc I J) (q_hn _ _ _ _) rfl ?_
  have hc9 := x_hasCell (d := d) (sw := sw) (gc := gc) (I := I) (J := J) hk (i := lN j)
  rw [hn, x_hc_in hj hn60] at hc9
  refine G_callV (b := 2 * k + 54) (ci := 5) (as := [.long (lN j)]) (rest := []) rfl rfl (q_shS (by omega)).1 (q_ltS (by omega)).1 (by decide) rfl rfl (Nat.le_of_ble_eq_true rfl) hc9 (Nat.le_refl _) ?_
  refine G_st (L := 89) (k := 0) (5, [some (.ref (2 * k + 54)), some (.long (lN j)), none], [.int 1], qS sw gc I J) (q_hn _ _ _ _) rfl ?_
  refine G_if_eq 18 rfl rfl (fun h9 => absurd h9 (by decide)) (fun _ => ?_)
  refine G_st (L := 89) (k := 1) (9, [some (.ref (2 * k + 54)), some (.long (lN j)), none], [.ref (2 * k + 54)], qS sw gc I J) (q_hn _ _ _ _) rfl ?_
  refine G_get (ci := 5) (k := 0) (i := 2 * k + 54) rfl rfl (q_shS (by omega)).1 (q_ltS (by omega)).1 ?_
  rw [show q_av (qS sw gc I J) (2 * k + 54) (q_fty 5 0) 0 = .ref (2 * k + 55) from congrArg va_rf (@q_rfS sw gc _ (by omega)).2]
  refine G_st (L := 89) (k := 2) (14, [some (.ref (2 * k + 54)), some (.long (lN j)), none], [.int (Int64.toInt32 (lN j)), .ref (2 * k + 55)], qS sw gc I J) (q_hn _ _ _ _) rfl ?_
  refine G_lald (i := 2 * k + 55) (n := 60) rfl (q_shS (by omega)).2 (q_ltS (by omega)).2 (by rw [q_li]; exact vp_in_nI (by omega) (by decide)) ?_
  rw [q_li, q_clamp (n := j) (by omega)]
  refine G_st (L := 89) (k := 1) (19, [some (.ref (2 * k + 54)), some (.long (lN j)), none], [.long (J (2 * k + 55) j)], qS sw gc I J) (q_hn _ _ _ _) rfl ?_
  exact G_lret rfl rfl rfl rfl
def q_filL (J : Nat → Nat → Int64) (r i n : Nat) (v : Int64) : Nat → Nat → Int64 := fun a b => if a = r ∧ i ≤ b ∧ b < n then v else J a b
theorem q_filL_step (J : Nat → Nat → Int64) {r i n : Nat} (v : Int64) (h : i < n) : q_filL (q_u J r i v) r (i + 1) n v = q_filL J r i n v := by
  funext a b
  unfold q_filL q_u
  by_cases h1 : a = r ∧ b = i
  · rw [if_pos h1, if_pos (show a = r ∧ i ≤ b ∧ b < n by omega)]; split <;> rfl
  · rw [if_neg h1]
    by_cases h2 : a = r ∧ i + 1 ≤ b ∧ b < n
    · rw [if_pos h2, if_pos (by omega)]
    · rw [if_neg h2, if_neg (by omega)]
theorem q_filL_end (J : Nat → Nat → Int64) (r n : Nat) (v : Int64) : q_filL J r n n v = J := by
  funext a b
  unfold q_filL
  rw [if_neg (by omega)]
theorem x_fillL_loop {d : Nat} {sw : Bool} {gc : Nat} {I : Nat → Nat → Int32} {v : Int64} {k : Nat} (hk : k < 4) : ∀ (n i : Nat) (J : Nat → Nat → Int64), i + n = 60 → G d 158 (6, [some (.ref (2 * k + 55)), some (.long v), none, some (.int (nI i)), some (.int 60)], [], qS sw gc I J) none (qS sw gc I (q_filL J (2 * k + 55) i 60 v)) := by
  intro n
  induction n with
  | zero =>
    intro i J h
    obtain rfl : i = 60 := by omega
    rw [q_filL_end]
    refine G_st (L := 89) (k := 2) (9, [some (.ref (2 * k + 55)), some (.long v), none, some (.int 60), some (.int 60)], [.int 60, .int 60], qS sw gc I J) (q_hn _ _ _ _) rfl ?_
    refine G_icmp_ge 22 rfl rfl (fun _ => ?_) (fun h9 => absurd h9 (by decide))
    exact G_ret rfl rfl rfl rfl
  | succ n ih =>
    intro i J h
    rw [← q_filL_step J v (by omega)]
    refine G_st (L := 89) (k := 2) (9, [some (.ref (2 * k + 55)), some (.long v), none, some (.int (nI i)), some (.int 60)], [.int 60, .int (nI i)], qS sw gc I J) (q_hn _ _ _ _) rfl ?_
    refine G_icmp_ge 22 rfl rfl (fun h9 => absurd h9 (nI_ge (b := 60) (by omega) (by decide))) (fun _ => ?_)
    refine G_st (L := 89) (k := 3) (15, [some (.ref (2 * k + 55)), some (.long v), none, some (.int (nI i)), some (.int 60)], [.long v, .int (nI i), .ref (2 * k + 55)], qS sw gc I J) (q_hn _ _ _ _) rfl ?_
    refine G_last (i := 2 * k + 55) (n := 60) rfl (q_shS (by omega)).2 (q_ltS (by omega)).2 (vp_in_nI (by omega) (by decide)) ?_
    rw [q_clamp (n := i) (by omega)]
    refine G_st (L := 89) (k := 2) (6, [some (.ref (2 * k + 55)), some (.long v), none, some (.int ((nI i) + 1)), some (.int 60)], [], qS sw gc I (q_u J (2 * k + 55) i v)) (q_hn _ _ _ _) rfl ?_
    rw [show (nI i) + 1 = nI (i + 1) from (q_addP rfl rfl)]
    exact ih (i + 1) _ (by omega)
theorem x_fillL {d : Nat} {sw : Bool} {gc : Nat} {I : Nat → Nat → Int32} {J : Nat → Nat → Int64} {k : Nat} (hk : k < 4) {v : Int64} : GM d 158 [.ref (2 * k + 55), .long v] (qS sw gc I J) (none) (qS sw gc I (q_filL J (2 * k + 55) 0 60 v)) := by
  refine GM_of (by decide) (Nat.le_refl _) (Nat.le_of_ble_eq_true rfl) trivial ?_
  refine G_st (L := 89) (k := 0) (0, [some (.ref (2 * k + 55)), some (.long v), none, none, none], [], qS sw gc I J) (q_hn _ _ _ _) rfl ?_
  refine G_st (L := 89) (k := 3) (3, [some (.ref (2 * k + 55)), some (.long v), none, some (.int 0), none], [.ref (2 * k + 55)], qS sw gc I J) (q_hn _ _ _ _) rfl ?_
  refine G_alen (t := 3) (n := 60) (x := 60) rfl (q_shS (by omega)).2 (by decide) (q_ltS (by omega)).2 rfl ?_
  refine G_st (L := 89) (k := 1) (6, [some (.ref (2 * k + 55)), some (.long v), none, some (.int 0), some (.int 60)], [], qS sw gc I J) (q_hn _ _ _ _) rfl ?_
  exact x_fillL_loop hk 60 0 J rfl
theorem x_renew {d : Nat} {sw : Bool} {gc : Nat} {I : Nat → Nat → Int32} {J : Nat → Nat → Int64} {k : Nat} (hk : k < 4) {a b : Int32} : GM (d + 1) 56 [.ref (2 * k + 54), .int a, .int b] (qS sw gc I J) (none) (qS sw gc (q_u (q_u I (2 * k + 54) 2 a) (2 * k + 54) 1 b) (q_filL J (2 * k + 55) 0 60 0)) := by
  refine GM_of (by decide) (Nat.le_refl _) (Nat.le_of_ble_eq_true rfl) trivial ?_
  refine G_st (L := 89) (k := 0) (0, [some (.ref (2 * k + 54)), some (.int a), some (.int b)], [], qS sw gc I J) (q_hn _ _ _ _) rfl ?_
  refine G_st (L := 89) (k := 2) (2, [some (.ref (2 * k + 54)), some (.int a), some (.int b)], [.int a, .ref (2 * k + 54)], qS sw gc I J) (q_hn _ _ _ _) rfl ?_
  refine G_put (ci := 5) (k := 2) (i := 2 * k + 54) (M1 := qS sw gc (q_u I (2 * k + 54) 2 a) J) rfl rfl (q_shS (by omega)).1 (q_ltS (by omega)).1 rfl rfl rfl ?_
  refine G_st (L := 89) (k := 2) (7, [some (.ref (2 * k + 54)), some (.int a), some (.int b)], [.int b, .ref (2 * k + 54)], qS sw gc (q_u I (2 * k + 54) 2 a) J) (q_hn _ _ _ _) rfl ?_
  refine G_put (ci := 5) (k := 1) (i := 2 * k + 54) (M1 := qS sw gc (q_u (q_u I (2 * k + 54) 2 a) (2 * k + 54) 1 b) J) rfl rfl (q_shS (by omega)).1 (q_ltS (by omega)).1 rfl rfl rfl ?_
  refine G_st (L := 89) (k := 1) (11, [some (.ref (2 * k + 54)), some (.int a), some (.int b)], [.ref (2 * k + 54)], qS sw gc (q_u (q_u I (2 * k + 54) 2 a) (2 * k + 54) 1 b) J) (q_hn _ _ _ _) rfl ?_
  refine G_get (ci := 5) (k := 0) (i := 2 * k + 54) rfl rfl (q_shS (by omega)).1 (q_ltS (by omega)).1 ?_
  rw [show q_av (qS sw gc (q_u (q_u I (2 * k + 54) 2 a) (2 * k + 54) 1 b) J) (2 * k + 54) (q_fty 5 0) 0 = .ref (2 * k + 55) from congrArg va_rf (@q_rfS sw gc _ (by omega)).2]
  refine G_st (L := 89) (k := 1) (15, [some (.ref (2 * k + 54)), some (.int a), some (.int b)], [.long 0, .ref (2 * k + 55)], qS sw gc (q_u (q_u I (2 * k + 54) 2 a) (2 * k + 54) 1 b) J) (q_hn _ _ _ _) rfl ?_
  refine G_callS (as := [.ref (2 * k + 55), .long 0]) (rest := []) rfl rfl rfl (Nat.le_of_ble_eq_true rfl) (x_fillL hk) (Nat.le_refl _) ?_
  refine G_st (L := 89) (k := 0) (18, [some (.ref (2 * k + 54)), some (.int a), some (.int b)], [], qS sw gc (q_u (q_u I (2 * k + 54) 2 a) (2 * k + 54) 1 b) (q_filL J (2 * k + 55) 0 60 0)) (q_hn _ _ _ _) rfl ?_
  exact G_ret rfl rfl rfl rfl
end
section
/-- the sizes: n of them, their lengths -/
def x_Sz (I : Nat → Nat → Int32) (n : Nat) (L : Nat → Nat) : Prop := I 47 3 = nI n ∧ n ≤ 8 ∧ ∀ k, k < n → I 48 k = nI (L k) ∧ 1 ≤ L k ∧ L k ≤ 20
theorem x_Sz.upd {I : Nat → Nat → Int32} {n : Nat} {L : Nat → Nat} (h : x_Sz I n L) {r b : Nat} {v : Int32} (h1 : ¬ (r = 47 ∧ b = 3)) (h2 : r ≠ 48) : x_Sz (q_u I r b v) n L := by
  refine ⟨?_, h.2.1, fun k hk => ?_⟩
  · rw [q_un _ _ (by omega)]; exact h.1
  · rw [q_un _ _ (by omega)]; exact h.2.2 k hk
theorem x_addSize {d : Nat} {sw : Bool} {gc : Nat} {I : Nat → Nat → Int32} {J : Nat → Nat → Int64} {n : Nat} {a b : Int32} (hn : I 47 3 = nI n) (h8 : n < 8) : GM d 44 [.ref 47, .int a, .int b] (qS sw gc I J) (some (.int (nI n))) (qS sw gc (q_u (q_u (q_u I 48 n a) 49 n b) 47 3 (nI (n + 1))) J) := by
  refine GM_of (by decide) (Nat.le_refl _) (Nat.le_of_ble_eq_true rfl) trivial ?_
  refine G_st (L := 89) (k := 0) (0, [some (.ref 47), some (.int a), some (.int b), none], [], qS sw gc I J) (q_hn _ _ _ _) rfl ?_
  refine G_st (L := 89) (k := 3) (6, [some (.ref 47), some (.int a), some (.int b), none], [.int 8, .int (I 47 3)], qS sw gc I J) (q_hn _ _ _ _) rfl ?_
  rw [show I 47 3 = nI n from hn]
  refine G_icmp_lt 12 rfl rfl (fun _ => ?_) (fun h9 => absurd (nI_lt (b := 8) (by omega) (by decide)) h9)
  refine G_st (L := 89) (k := 7) (23, [some (.ref 47), some (.int a), some (.int b), some (.int (I 47 3))], [.int a, .int (I 47 3), .ref 48], qS sw gc I J) (q_hn _ _ _ _) rfl ?_
  rw [show I 47 3 = nI n from hn]
  refine G_iast (i := 48) (n := 8) rfl rfl (q_lt (by decide)) (vp_in_nI (by omega) (by decide)) ?_
  rw [q_clamp (n := n) (by omega)]
  refine G_st (L := 89) (k := 4) (30, [some (.ref 47), some (.int a), some (.int b), some (.int (nI n))], [.int b, .int (nI n), .ref 49], qS sw gc (q_u I 48 n a) J) (q_hn _ _ _ _) rfl ?_
  refine G_iast (i := 49) (n := 8) rfl rfl (q_lt (by decide)) (vp_in_nI (by omega) (by decide)) ?_
  rw [q_clamp (n := n) (by omega)]
  refine G_st (L := 89) (k := 2) (33, [some (.ref 47), some (.int a), some (.int b), some (.int (nI n))], [.ref 47, .ref 47], qS sw gc (q_u (q_u I 48 n a) 49 n b) J) (q_hn _ _ _ _) rfl ?_
  refine G_get (ci := 4) (k := 3) (i := 47) rfl rfl rfl (q_lt (by decide)) ?_
  rw [show q_av (qS sw gc (q_u (q_u I 48 n a) 49 n b) J) 47 (q_fty 4 3) 3 = .int (I 47 3) from congrArg Value.int (show (q_u (q_u I 48 n a) 49 n b) 47 3 = I 47 3 from (q_un _ _ (by omega)).trans (q_un _ _ (by omega)))]
  refine G_st (L := 89) (k := 4) (42, [some (.ref 47), some (.int a), some (.int b), some (.int (nI n))], [.int (nI n)], qS sw gc (q_u (q_u (q_u I 48 n a) 49 n b) 47 3 ((I 47 3) + 1)) J) (q_hn _ _ _ _) rfl ?_
  exact G_iret rfl rfl rfl (by rw [hn, nI_1])
theorem x_addSizeF {d : Nat} {sw : Bool} {gc : Nat} {I : Nat → Nat → Int32} {J : Nat → Nat → Int64} {a b : Int32} (hn : I 47 3 = nI 8) : GM d 44 [.ref 47, .int a, .int b] (qS sw gc I J) (some (.int (-3))) (qS sw gc I J) := by
  refine GM_of (by decide) (Nat.le_refl _) (Nat.le_of_ble_eq_true rfl) trivial ?_
  refine G_st (L := 89) (k := 0) (0, [some (.ref 47), some (.int a), some (.int b), none], [], qS sw gc I J) (q_hn _ _ _ _) rfl ?_
  refine G_st (L := 89) (k := 3) (6, [some (.ref 47), some (.int a), some (.int b), none], [.int 8, .int (I 47 3)], qS sw gc I J) (q_hn _ _ _ _) rfl ?_
  rw [show I 47 3 = nI 8 from hn]
  refine G_icmp_lt 12 rfl rfl (fun h9 => absurd h9 (by decide)) (fun _ => ?_)
  refine G_st (L := 89) (k := 1) (11, [some (.ref 47), some (.int a), some (.int b), none], [.int (-3)], qS sw gc I J) (q_hn _ _ _ _) rfl ?_
  exact G_iret rfl rfl rfl rfl
theorem x_hasSize {d : Nat} {sw : Bool} {gc : Nat} {I : Nat → Nat → Int32} {J : Nat → Nat → Int64} {n : Nat} {L : Nat → Nat} (hz : x_Sz I n L) {k : Nat} (hk : k < n) : GM d 45 [.ref 47, .int (nI k)] (qS sw gc I J) (some (.int 1)) (qS sw gc I J) := by
  have h8 := hz.2.1
  refine GM_of (by decide) (Nat.le_refl _) (Nat.le_of_ble_eq_true rfl) rfl ?_
  refine G_st (L := 89) (k := 0) (0, [some (.ref 47), some (.int (nI k))], [], qS sw gc I J) (q_hn _ _ _ _) rfl ?_
  refine G_st (L := 89) (k := 1) (1, [some (.ref 47), some (.int (nI k))], [.int (nI k)], qS sw gc I J) (q_hn _ _ _ _) rfl ?_
  refine G_if_lt 22 rfl rfl (fun h9 => absurd h9 (nI_nlt (b := 0) (by omega) (by omega))) (fun _ => ?_)
  refine G_st (L := 89) (k := 3) (9, [some (.ref 47), some (.int (nI k))], [.int (I 47 3), .int (nI k)], qS sw gc I J) (q_hn _ _ _ _) rfl ?_
  rw [show I 47 3 = nI n from hz.1]
  refine G_icmp_ge 22 rfl rfl (fun h9 => absurd h9 (nI_ge (by omega) (by omega))) (fun _ => ?_)
  refine G_st (L := 89) (k := 2) (15, [some (.ref 47), some (.int (nI k))], [.int 8, .int (nI k)], qS sw gc I J) (q_hn _ _ _ _) rfl ?_
  refine G_icmp_ge 22 rfl rfl (fun h9 => absurd h9 (nI_ge (b := 8) (by omega) (by decide))) (fun _ => ?_)
  refine G_st (L := 89) (k := 2) (23, [some (.ref 47), some (.int (nI k))], [.int 1], qS sw gc I J) (q_hn _ _ _ _) rfl ?_
  exact G_iret rfl rfl rfl rfl
theorem x_hasSizeN {d : Nat} {sw : Bool} {gc : Nat} {I : Nat → Nat → Int32} {J : Nat → Nat → Int64} {n : Nat} {L : Nat → Nat} (hz : x_Sz I n L) {x : Int32} (hx : x < 0 ∨ nI n ≤ x) : GM d 45 [.ref 47, .int x] (qS sw gc I J) (some (.int 0)) (qS sw gc I J) := by
  refine GM_of (by decide) (Nat.le_refl _) (Nat.le_of_ble_eq_true rfl) rfl ?_
  refine G_st (L := 89) (k := 0) (0, [some (.ref 47), some (.int x)], [], qS sw gc I J) (q_hn _ _ _ _) rfl ?_
  refine G_st (L := 89) (k := 1) (1, [some (.ref 47), some (.int x)], [.int x], qS sw gc I J) (q_hn _ _ _ _) rfl ?_
  refine G_if_lt 22 rfl rfl (fun h1 => ?_) (fun h1 => ?_)
  · skip
    refine G_st (L := 89) (k := 1) (23, [some (.ref 47), some (.int x)], [.int 0], qS sw gc I J) (q_hn _ _ _ _) rfl ?_
    exact G_iret rfl rfl rfl rfl
  · skip
    refine G_st (L := 89) (k := 3) (9, [some (.ref 47), some (.int x)], [.int (I 47 3), .int x], qS sw gc I J) (q_hn _ _ _ _) rfl ?_
    rw [show I 47 3 = nI n from hz.1]
    refine G_icmp_ge 22 rfl rfl (fun _ => ?_) (fun h9 => absurd (hx.resolve_left h1) h9)
    refine G_st (L := 89) (k := 1) (23, [some (.ref 47), some (.int x)], [.int 0], qS sw gc I J) (q_hn _ _ _ _) rfl ?_
    exact G_iret rfl rfl rfl rfl
theorem x_slatesOf {d : Nat} {sw : Bool} {gc : Nat} {I : Nat → Nat → Int32} {J : Nat → Nat → Int64} {n : Nat} {L : Nat → Nat} (hz : x_Sz I n L) {k : Nat} (hk : k < n) : GM (d + 1) 46 [.ref 47, .int (nI k)] (qS sw gc I J) (some (.int (I 50 k))) (qS sw gc I J) := by
  have h8 := hz.2.1
  refine GM_of (by decide) (Nat.le_refl _) (Nat.le_of_ble_eq_true rfl) trivial ?_
  refine G_st (L := 89) (k := 0) (0, [some (.ref 47), some (.int (nI k))], [], qS sw gc I J) (q_hn _ _ _ _) rfl ?_
  refine G_st (L := 89) (k := 2) (2, [some (.ref 47), some (.int (nI k))], [.int (nI k), .ref 47], qS sw gc I J) (q_hn _ _ _ _) rfl ?_
  refine G_callV (b := 47) (ci := 4) (as := [.int (nI k)]) (rest := []) rfl rfl rfl (q_lt (by decide)) (by decide) rfl rfl (Nat.le_of_ble_eq_true rfl) (x_hasSize hz (by omega)) (Nat.le_refl _) ?_
  refine G_st (L := 89) (k := 0) (5, [some (.ref 47), some (.int (nI k))], [.int 1], qS sw gc I J) (q_hn _ _ _ _) rfl ?_
  refine G_if_eq 17 rfl rfl (fun h9 => absurd h9 (by decide)) (fun _ => ?_)
  refine G_st (L := 89) (k := 3) (13, [some (.ref 47), some (.int (nI k))], [.int (nI k), .ref 50], qS sw gc I J) (q_hn _ _ _ _) rfl ?_
  refine G_iald (i := 50) (n := 8) rfl rfl (q_lt (by decide)) (vp_in_nI (by omega) (by decide)) ?_
  rw [q_clamp (n := k) (by omega)]
  refine G_st (L := 89) (k := 1) (18, [some (.ref 47), some (.int (nI k))], [.int (I 50 k)], qS sw gc I J) (q_hn _ _ _ _) rfl ?_
  exact G_iret rfl rfl rfl rfl
def x_ff (F : Int64) (l p : Int32) : Bool := decide ((F &&& (((1 <<< (Int32.toInt64 l &&& 63)) - 1) <<< (Int32.toInt64 p &&& 63))) = 0)
def x_mw (I : Nat → Nat → Int32) (L : Nat → Nat) (len : Nat) (F : Int64) (p k : Nat) : Int32 := if nI (L k) ≤ nI (len - p) then cond (x_ff F (I 48 k) (nI p)) (I 49 k + I 51 (p + L k)) (-4) else (-4)
theorem x_mostWith {d : Nat} {sw : Bool} {gc : Nat} {I : Nat → Nat → Int32} {J : Nat → Nat → Int64} {n : Nat} {L : Nat → Nat} (hz : x_Sz I n L) {len p : Nat} {F : Int64} (hl : len ≤ 40) (hp : p < len) {k : Nat} (hk : k < n) : GM (d + 1) 48 [.ref 47, .int (nI k), .int (nI p), .int (nI len), .long F] (qS sw gc I J) (some (.int (x_mw I L len F p k))) (qS sw gc I J) := by
  have h8 := hz.2.1
  have hk2 := (hz.2.2 k hk).2
  refine GM_of (by decide) (Nat.le_refl _) (Nat.le_of_ble_eq_true rfl) trivial ?_
  refine G_st (L := 89) (k := 0) (0, [some (.ref 47), some (.int (nI k)), some (.int (nI p)), some (.int (nI len)), some (.long F), none, none, none], [], qS sw gc I J) (q_hn _ _ _ _) rfl ?_
  refine G_st (L := 89) (k := 2) (2, [some (.ref 47), some (.int (nI k)), some (.int (nI p)), some (.int (nI len)), some (.long F), none, none, none], [.int (nI k), .ref 47], qS sw gc I J) (q_hn _ _ _ _) rfl ?_
  refine G_callV (b := 47) (ci := 4) (as := [.int (nI k)]) (rest := []) rfl rfl rfl (q_lt (by decide)) (by decide) rfl rfl (Nat.le_of_ble_eq_true rfl) (x_hasSize hz (by omega)) (Nat.le_refl _) ?_
  refine G_st (L := 89) (k := 0) (5, [some (.ref 47), some (.int (nI k)), some (.int (nI p)), some (.int (nI len)), some (.long F), none, none, none], [.int 1], qS sw gc I J) (q_hn _ _ _ _) rfl ?_
  refine G_if_eq 30 rfl rfl (fun h9 => absurd h9 (by decide)) (fun _ => ?_)
  refine G_st (L := 89) (k := 1) (9, [some (.ref 47), some (.int (nI k)), some (.int (nI p)), some (.int (nI len)), some (.long F), none, none, none], [.int (nI p)], qS sw gc I J) (q_hn _ _ _ _) rfl ?_
  refine G_if_lt 30 rfl rfl (fun h9 => absurd h9 (nI_nlt (b := 0) (by omega) (by omega))) (fun _ => ?_)
  refine G_st (L := 89) (k := 2) (15, [some (.ref 47), some (.int (nI k)), some (.int (nI p)), some (.int (nI len)), some (.long F), none, none, none], [.int 40, .int (nI len)], qS sw gc I J) (q_hn _ _ _ _) rfl ?_
  refine G_icmp_gt 30 rfl rfl (fun h9 => absurd h9 (nI_nlt (a := 40) (by omega) (by decide))) (fun _ => ?_)
  refine G_st (L := 89) (k := 3) (23, [some (.ref 47), some (.int (nI k)), some (.int (nI p)), some (.int (nI len)), some (.long F), none, none, none], [.int (nI k), .ref 48], qS sw gc I J) (q_hn _ _ _ _) rfl ?_
  refine G_iald (i := 48) (n := 8) rfl rfl (q_lt (by decide)) (vp_in_nI (by omega) (by decide)) ?_
  rw [q_clamp (n := k) (by omega)]
  refine G_st (L := 89) (k := 3) (27, [some (.ref 47), some (.int (nI k)), some (.int (nI p)), some (.int (nI len)), some (.long F), none, none, none], [.int ((nI len) - (nI p)), .int (I 48 k)], qS sw gc I J) (q_hn _ _ _ _) rfl ?_
  rw [show (nI len) - (nI p) = nI (len - p) from (q_subP rfl rfl (by omega))]
  rw [show I 48 k = nI (L k) from (hz.2.2 k (by omega)).1]
  refine G_icmp_le 33 rfl rfl (fun h1 => ?_) (fun h1 => ?_)
  · skip
    refine G_st (L := 89) (k := 4) (39, [some (.ref 47), some (.int (nI k)), some (.int (nI p)), some (.int (nI len)), some (.long F), none, none, none], [.int (nI k), .ref 48, .long 1], qS sw gc I J) (q_hn _ _ _ _) rfl ?_
    refine G_iald (i := 48) (n := 8) rfl rfl (q_lt (by decide)) (vp_in_nI (by omega) (by decide)) ?_
    rw [q_clamp (n := k) (by omega)]
    refine G_st (L := 89) (k := 11) (54, [some (.ref 47), some (.int (nI k)), some (.int (nI p)), some (.int (nI len)), some (.long F), none, some (.long (((1 <<< (Int32.toInt64 (I 48 k) &&& 63)) - 1) <<< (Int32.toInt64 (nI p) &&& 63))), none], [.int (lg_cmp (F &&& (((1 <<< (Int32.toInt64 (I 48 k) &&& 63)) - 1) <<< (Int32.toInt64 (nI p) &&& 63))) 0)], qS sw gc I J) (q_hn _ _ _ _) rfl ?_
    refine G_if_ne 80 rfl rfl (fun h2 => ?_) (fun h2 => ?_)
    · skip
      refine G_st (L := 89) (k := 1) (82, [some (.ref 47), some (.int (nI k)), some (.int (nI p)), some (.int (nI len)), some (.long F), none, some (.long (((1 <<< (Int32.toInt64 (I 48 k) &&& 63)) - 1) <<< (Int32.toInt64 (nI p) &&& 63))), none], [.int (-4)], qS sw gc I J) (q_hn _ _ _ _) rfl ?_
      exact G_iret rfl rfl (by rw [x_mw, if_pos h1, x_ff, decide_eq_false (fun z => h2 ((q_cmp_eq _ _).mpr z))]; rfl) rfl
    · skip
      refine G_st (L := 89) (k := 3) (62, [some (.ref 47), some (.int (nI k)), some (.int (nI p)), some (.int (nI len)), some (.long F), none, some (.long (((1 <<< (Int32.toInt64 (I 48 k) &&& 63)) - 1) <<< (Int32.toInt64 (nI p) &&& 63))), none], [.int (nI k), .ref 49], qS sw gc I J) (q_hn _ _ _ _) rfl ?_
      refine G_iald (i := 49) (n := 8) rfl rfl (q_lt (by decide)) (vp_in_nI (by omega) (by decide)) ?_
      rw [q_clamp (n := k) (by omega)]
      refine G_st (L := 89) (k := 6) (73, [some (.ref 47), some (.int (nI k)), some (.int (nI p)), some (.int (nI len)), some (.long F), none, some (.long (((1 <<< (Int32.toInt64 (I 48 k) &&& 63)) - 1) <<< (Int32.toInt64 (nI p) &&& 63))), none], [.int (nI k), .ref 48, .int (nI p), .ref 51, .int (I 49 k)], qS sw gc I J) (q_hn _ _ _ _) rfl ?_
      refine G_iald (i := 48) (n := 8) rfl rfl (q_lt (by decide)) (vp_in_nI (by omega) (by decide)) ?_
      rw [q_clamp (n := k) (by omega)]
      refine G_st (L := 89) (k := 1) (75, [some (.ref 47), some (.int (nI k)), some (.int (nI p)), some (.int (nI len)), some (.long F), none, some (.long (((1 <<< (Int32.toInt64 (I 48 k) &&& 63)) - 1) <<< (Int32.toInt64 (nI p) &&& 63))), none], [.int ((nI p) + (I 48 k)), .ref 51, .int (I 49 k)], qS sw gc I J) (q_hn _ _ _ _) rfl ?_
      rw [show (nI p) + (I 48 k) = nI (p + L k) from (q_addP rfl ((hz.2.2 k (by omega)).1))]
      refine G_iald (i := 51) (n := 41) rfl rfl (q_lt (by decide)) (vp_in_nI (by have z1 := (nI_leI (by omega) (by omega)).mp h1; omega) (by decide)) ?_
      rw [q_clamp (n := p + L k) (by omega)]
      refine G_st (L := 89) (k := 2) (82, [some (.ref 47), some (.int (nI k)), some (.int (nI p)), some (.int (nI len)), some (.long F), none, some (.long (((1 <<< (Int32.toInt64 (I 48 k) &&& 63)) - 1) <<< (Int32.toInt64 (nI p) &&& 63))), none], [.int ((I 49 k) + (I 51 (p + L k)))], qS sw gc I J) (q_hn _ _ _ _) rfl ?_
      exact G_iret rfl rfl (by rw [x_mw, if_pos h1, x_ff, decide_eq_true ((q_cmp_eq _ _).mp h2)]; rfl) rfl
  · skip
    refine G_st (L := 89) (k := 1) (32, [some (.ref 47), some (.int (nI k)), some (.int (nI p)), some (.int (nI len)), some (.long F), none, none, none], [.int (-4)], qS sw gc I J) (q_hn _ _ _ _) rfl ?_
    exact G_iret rfl rfl (by rw [x_mw, if_neg h1]) rfl
def x_inN (I : Nat → Nat → Int32) (L : Nat → Nat) (len : Nat) (F : Int64) (p : Nat) : Nat → Nat → Int32 → Int32
  | 0, _, a => a
  | m + 1, k, a => x_inN I L len F p m (k + 1) (f_jmax a (x_mw I L len F p k))
def x_out (L : Nat → Nat) (n len : Nat) (F : Int64) : Nat → (Nat → Nat → Int32) → (Nat → Nat → Int32)
  | 0, I => I
  | p + 1, I => x_out L n len F p (q_u I 51 p (x_inN I L len F p n 0 (I 51 (p + 1))))
theorem x_in_loop {d : Nat} {sw : Bool} {gc : Nat} {I : Nat → Nat → Int32} {J : Nat → Nat → Int64} {n : Nat} {L : Nat → Nat} (hz : x_Sz I n L) {len p : Nat} {F : Int64} (hl : len ≤ 40) (hp : p < len) {r : Option Value} {M2 : qM} (hM : q_n (qS sw gc I J) ≤ q_n M2) : ∀ (m k : Nat) (a : Int32), k + m = n → G (d + 2) 47 (74, [some (.ref 47), some (.int (nI len)), some (.long F), none, some (.int (nI p)), some (.int (x_inN I L len F p m k a)), none], [], qS sw gc I J) r M2 → G (d + 2) 47 (42, [some (.ref 47), some (.int (nI len)), some (.long F), none, some (.int (nI p)), some (.int a), some (.int (nI k))], [], qS sw gc I J) r M2 := by
  have h8 := hz.2.1
  intro m
  induction m with
  | zero =>
    intro k a h g
    obtain rfl : k = n := by omega
    refine G_st (L := 89) (k := 3) (48, [some (.ref 47), some (.int (nI len)), some (.long F), none, some (.int (nI p)), some (.int a), some (.int (nI k))], [.int (I 47 3), .int (nI k)], qS sw gc I J) (q_hn _ _ _ _) rfl ?_
    rw [show I 47 3 = nI k from hz.1]
    refine G_icmp_ge 74 rfl rfl (fun _ => ?_) (fun h9 => absurd (nI_le (Nat.le_refl _) (by omega)) h9)
    refine G_fg [some (.ref 47), some (.int (nI len)), some (.long F), none, some (.int (nI p)), some (.int a), none] (by repeat (first | exact trivial | refine ⟨rfl, ?_⟩)) ?_
    exact g
  | succ m ih =>
    intro k a h g
    refine G_st (L := 89) (k := 3) (48, [some (.ref 47), some (.int (nI len)), some (.long F), none, some (.int (nI p)), some (.int a), some (.int (nI k))], [.int (I 47 3), .int (nI k)], qS sw gc I J) (q_hn _ _ _ _) rfl ?_
    rw [show I 47 3 = nI n from hz.1]
    refine G_icmp_ge 74 rfl rfl (fun h9 => absurd h9 (nI_ge (by omega) (by omega))) (fun _ => ?_)
    refine G_st (L := 89) (k := 6) (60, [some (.ref 47), some (.int (nI len)), some (.long F), none, some (.int (nI p)), some (.int a), some (.int (nI k))], [.long F, .int (nI len), .int (nI p), .int (nI k), .ref 47, .int a], qS sw gc I J) (q_hn _ _ _ _) rfl ?_
    refine G_callV (b := 47) (ci := 4) (as := [.int (nI k), .int (nI p), .int (nI len), .long F]) (rest := [.int a]) rfl rfl rfl (q_lt (by decide)) (by decide) rfl rfl (Nat.le_of_ble_eq_true rfl) (x_mostWith hz hl (by omega) (by omega)) hM ?_
    refine G_st (L := 89) (k := 0) (63, [some (.ref 47), some (.int (nI len)), some (.long F), none, some (.int (nI p)), some (.int a), some (.int (nI k))], [.int (x_mw I L len F p k), .int a], qS sw gc I J) (q_hn _ _ _ _) rfl ?_
    refine G_callS (as := [.int a, .int (x_mw I L len F p k)]) (rest := []) rfl rfl rfl (Nat.le_of_ble_eq_true rfl) (m_jmax _ _) hM ?_
    refine G_st (L := 89) (k := 3) (42, [some (.ref 47), some (.int (nI len)), some (.long F), none, some (.int (nI p)), some (.int (f_jmax a (x_mw I L len F p k))), some (.int ((nI k) + 1))], [], qS sw gc I J) (q_hn _ _ _ _) rfl ?_
    rw [show (nI k) + 1 = nI (k + 1) from (q_addP rfl rfl)]
    exact ih (k + 1) _ (by omega) g
theorem q_m1 (x : Int32) : x + (-1) + 1 = x := by rw [Int32.add_assoc, show ((-1 : Int32) + 1) = 0 from rfl, Int32.add_zero]
theorem x_out_n {sw : Bool} {gc : Nat} {I I2 : Nat → Nat → Int32} {J J2 : Nat → Nat → Int64} : q_n (qS sw gc I J) ≤ q_n (qS sw gc I2 J2) := Nat.le_refl _
theorem x_out_loop {d : Nat} {sw : Bool} {gc : Nat} {J : Nat → Nat → Int64} {n len : Nat} {L : Nat → Nat} {F : Int64} (hl : len ≤ 40) : ∀ (p : Nat) (I : Nat → Nat → Int32) (o5 o6 : Option Value) (x : Int32), x_Sz I n L → p ≤ len → x + 1 = nI p → G (d + 2) 47 (23, [some (.ref 47), some (.int (nI len)), some (.long F), none, some (.int x), none, none], [], qS sw gc I J) (some (.int (x_out L n len F p I 51 0))) (qS sw gc (x_out L n len F p I) J) := by
  intro p
  induction p with
  | zero =>
    intro I o5 o6 x hz hp hx
    obtain rfl : x = -1 := by
      rw [show (-1 : Int32) = nI 0 - 1 from rfl, ← hx]
      simp
    refine G_st (L := 89) (k := 1) (25, [some (.ref 47), some (.int (nI len)), some (.long F), none, some (.int (-1)), none, none], [.int (-1)], qS sw gc I J) (q_hn _ _ _ _) rfl ?_
    refine G_if_lt 89 rfl rfl (fun _ => ?_) (fun h9 => absurd h9 (by decide))
    refine G_st (L := 89) (k := 3) (94, [some (.ref 47), some (.int (nI len)), some (.long F), none, some (.int (-1)), none, none], [.int 0, .ref 51], qS sw gc I J) (q_hn _ _ _ _) rfl ?_
    refine G_iald (i := 51) (n := 41) rfl rfl (q_lt (by decide)) (by unfold vp_in; decide) ?_
    refine G_st (L := 89) (k := 0) (95, [some (.ref 47), some (.int (nI len)), some (.long F), none, some (.int (-1)), none, none], [.int (I 51 0)], qS sw gc I J) (q_hn _ _ _ _) rfl ?_
    exact G_iret rfl rfl rfl rfl
  | succ p ih =>
    intro I o5 o6 x hz hp hx
    obtain rfl : x = nI p := by
      have e : x + 1 = nI p + 1 := by rw [hx, nI_1]
      exact (Int32.add_left_inj 1).mp e
    have h8 := hz.2.1
    refine G_st (L := 89) (k := 1) (25, [some (.ref 47), some (.int (nI len)), some (.long F), none, some (.int (nI p)), none, none], [.int (nI p)], qS sw gc I J) (q_hn _ _ _ _) rfl ?_
    refine G_if_lt 89 rfl rfl (fun h9 => absurd h9 (nI_nlt (b := 0) (by omega) (by omega))) (fun _ => ?_)
    refine G_st (L := 89) (k := 5) (36, [some (.ref 47), some (.int (nI len)), some (.long F), none, some (.int (nI p)), none, none], [.int ((nI p) + 1), .ref 51], qS sw gc I J) (q_hn _ _ _ _) rfl ?_
    rw [show (nI p) + 1 = nI (p + 1) from (q_addP rfl rfl)]
    refine G_iald (i := 51) (n := 41) rfl rfl (q_lt (by decide)) (vp_in_nI (by omega) (by decide)) ?_
    rw [q_clamp (n := p + 1) (by omega)]
    refine G_st (L := 89) (k := 3) (42, [some (.ref 47), some (.int (nI len)), some (.long F), none, some (.int (nI p)), some (.int (I 51 (p + 1))), some (.int 0)], [], qS sw gc I J) (q_hn _ _ _ _) rfl ?_
    refine x_in_loop hz hl (by omega) x_out_n n 0 _ (by omega) ?_
    refine G_st (L := 89) (k := 4) (82, [some (.ref 47), some (.int (nI len)), some (.long F), none, some (.int (nI p)), some (.int (x_inN I L len F p n 0 (I 51 (p + 1)))), none], [.int (x_inN I L len F p n 0 (I 51 (p + 1))), .int (nI p), .ref 51], qS sw gc I J) (q_hn _ _ _ _) rfl ?_
    refine G_iast (i := 51) (n := 41) rfl rfl (q_lt (by decide)) (vp_in_nI (by omega) (by decide)) ?_
    rw [q_clamp (n := p) (by omega)]
    refine G_st (L := 89) (k := 2) (23, [some (.ref 47), some (.int (nI len)), some (.long F), none, some (.int ((nI p) + (-1))), some (.int (x_inN I L len F p n 0 (I 51 (p + 1)))), none], [], qS sw gc (q_u I 51 p (x_inN I L len F p n 0 (I 51 (p + 1)))) J) (q_hn _ _ _ _) rfl ?_
    refine G_fg [some (.ref 47), some (.int (nI len)), some (.long F), none, some (.int ((nI p) + (-1))), none, none] (by repeat (first | exact trivial | refine ⟨rfl, ?_⟩)) ?_
    exact ih _ none none _ (hz.upd (by omega) (by omega)) (by omega) (q_m1 _)
def x_mo (I : Nat → Nat → Int32) (L : Nat → Nat) (n len : Nat) (F : Int64) : Nat → Nat → Int32 := x_out L n len F len (q_u I 51 len 0)
theorem x_mostOf {d : Nat} {sw : Bool} {gc : Nat} {I : Nat → Nat → Int32} {J : Nat → Nat → Int64} {n : Nat} {L : Nat → Nat} (hz : x_Sz I n L) {len : Nat} {F : Int64} (hl : len ≤ 40) (hl1 : 1 ≤ len) (hb : f_isBlock (lN len) F = 1) : GM (d + 2) 47 [.ref 47, .int (nI len), .long F] (qS sw gc I J) (some (.int (x_mo I L n len F 51 0))) (qS sw gc (x_mo I L n len F) J) := by
  have hb9 := m_isBlock (d := d + 1) (M := qS sw gc I J) (lN len) F
  rw [hb] at hb9
  refine GM_of (by decide) (Nat.le_refl _) (Nat.le_of_ble_eq_true rfl) trivial ?_
  refine G_st (L := 89) (k := 0) (0, [some (.ref 47), some (.int (nI len)), some (.long F), none, none, none, none], [], qS sw gc I J) (q_hn _ _ _ _) rfl ?_
  refine G_st (L := 89) (k := 3) (3, [some (.ref 47), some (.int (nI len)), some (.long F), none, none, none, none], [.long F, .long (Int32.toInt64 (nI len))], qS sw gc I J) (q_hn _ _ _ _) rfl ?_
  rw [show Int32.toInt64 (nI len) = lN len from (q_i2lP rfl (by omega))]
  refine G_callS (as := [.long (lN len), .long F]) (rest := []) rfl rfl rfl (Nat.le_of_ble_eq_true rfl) hb9 (Nat.le_refl _) ?_
  refine G_st (L := 89) (k := 0) (6, [some (.ref 47), some (.int (nI len)), some (.long F), none, none, none, none], [.int 1], qS sw gc I J) (q_hn _ _ _ _) rfl ?_
  refine G_if_ne 11 rfl rfl (fun _ => ?_) (fun h9 => absurd h9 (by decide))
  refine G_st (L := 89) (k := 4) (17, [some (.ref 47), some (.int (nI len)), some (.long F), none, none, none, none], [.int 0, .int (nI len), .ref 51], qS sw gc I J) (q_hn _ _ _ _) rfl ?_
  refine G_iast (i := 51) (n := 41) rfl rfl (q_lt (by decide)) (vp_in_nI (by omega) (by decide)) ?_
  rw [q_clamp (n := len) (by omega)]
  refine G_st (L := 89) (k := 4) (23, [some (.ref 47), some (.int (nI len)), some (.long F), none, some (.int ((nI len) - 1)), none, none], [], qS sw gc (q_u I 51 len 0) J) (q_hn _ _ _ _) rfl ?_
  rw [show (nI len) - 1 = nI (len - 1) from (q_subP rfl rfl (by omega))]
  exact x_out_loop hl len _ none none _ (hz.upd (by omega) (by omega)) (Nat.le_refl _) (by rw [nI_1, Nat.sub_add_cancel hl1])
end
section
def x_pv (o : Option Nat) : Int32 := match o with
  | none => -5
  | some k => nI k
def x_pkN (I : Nat → Nat → Int32) (L : Nat → Nat) (len : Nat) (F : Int64) (p : Nat) : Nat → Nat → Option Nat
  | 0, _ => none
  | m + 1, k => if x_mw I L len F p k = I 51 p then some k else x_pkN I L len F p m (k + 1)
def x_pk (I : Nat → Nat → Int32) (L : Nat → Nat) (n len : Nat) (F : Int64) (p : Nat) : Option Nat := x_pkN I L len F p n 0
theorem x_pkN_lt {I : Nat → Nat → Int32} {L : Nat → Nat} {len : Nat} {F : Int64} {p : Nat} : ∀ (m k j : Nat), x_pkN I L len F p m k = some j → j < k + m
  | 0, k, j, h => by cases h
  | m + 1, k, j, h => by
    unfold x_pkN at h
    split at h
    · cases h; omega
    · have := x_pkN_lt m (k + 1) j h; omega
theorem x_pk_lt {I : Nat → Nat → Int32} {L : Nat → Nat} {n len : Nat} {F : Int64} {p j : Nat} (h : x_pk I L n len F p = some j) : j < n := by
  have := x_pkN_lt n 0 j h; omega
theorem x_mw_upd {I : Nat → Nat → Int32} {L : Nat → Nat} {len : Nat} {F : Int64} {p k r b : Nat} {v : Int32} (h : r ≠ 48 ∧ r ≠ 49 ∧ r ≠ 51) : x_mw (q_u I r b v) L len F p k = x_mw I L len F p k := by
  unfold x_mw
  rw [q_un _ _ (by omega), q_un _ _ (by omega), q_un _ _ (by omega)]
theorem x_pkN_upd {I : Nat → Nat → Int32} {L : Nat → Nat} {len : Nat} {F : Int64} {p r b : Nat} {v : Int32} (h : r ≠ 48 ∧ r ≠ 49 ∧ r ≠ 51) : ∀ (m k : Nat), x_pkN (q_u I r b v) L len F p m k = x_pkN I L len F p m k
  | 0, k => rfl
  | m + 1, k => by
    unfold x_pkN
    rw [x_mw_upd h, q_un _ _ (by omega), x_pkN_upd h m (k + 1)]
theorem x_pk_upd {I : Nat → Nat → Int32} {L : Nat → Nat} {n len : Nat} {F : Int64} {p r b : Nat} {v : Int32} (h : r ≠ 48 ∧ r ≠ 49 ∧ r ≠ 51) : x_pk (q_u I r b v) L n len F p = x_pk I L n len F p := x_pkN_upd h n 0
theorem x_pf_loop {d : Nat} {sw : Bool} {gc : Nat} {I : Nat → Nat → Int32} {J : Nat → Nat → Int64} {n : Nat} {L : Nat → Nat} (hz : x_Sz I n L) {len p : Nat} {F : Int64} (hl : len ≤ 40) (hp : p < len) : ∀ (m k : Nat), k + m = n → G (d + 2) 50 (16, [some (.ref 47), some (.int (nI p)), some (.int (nI len)), some (.long F), none, some (.int (nI k))], [], qS sw gc I J) (some (.int (x_pv (x_pkN I L len F p m k)))) (qS sw gc I J) := by
  have h8 := hz.2.1
  intro m
  induction m with
  | zero =>
    intro k h
    obtain rfl : k = n := by omega
    refine G_st (L := 89) (k := 3) (22, [some (.ref 47), some (.int (nI p)), some (.int (nI len)), some (.long F), none, some (.int (nI k))], [.int (I 47 3), .int (nI k)], qS sw gc I J) (q_hn _ _ _ _) rfl ?_
    rw [show I 47 3 = nI k from hz.1]
    refine G_icmp_ge 52 rfl rfl (fun _ => ?_) (fun h9 => absurd (nI_le (Nat.le_refl _) (by omega)) h9)
    refine G_st (L := 89) (k := 1) (54, [some (.ref 47), some (.int (nI p)), some (.int (nI len)), some (.long F), none, some (.int (nI k))], [.int (-5)], qS sw gc I J) (q_hn _ _ _ _) rfl ?_
    exact G_iret rfl rfl rfl rfl
  | succ m ih =>
    intro k h
    refine G_st (L := 89) (k := 3) (22, [some (.ref 47), some (.int (nI p)), some (.int (nI len)), some (.long F), none, some (.int (nI k))], [.int (I 47 3), .int (nI k)], qS sw gc I J) (q_hn _ _ _ _) rfl ?_
    rw [show I 47 3 = nI n from hz.1]
    refine G_icmp_ge 52 rfl rfl (fun h9 => absurd h9 (nI_ge (by omega) (by omega))) (fun _ => ?_)
    refine G_st (L := 89) (k := 5) (31, [some (.ref 47), some (.int (nI p)), some (.int (nI len)), some (.long F), none, some (.int (nI k))], [.long F, .int (nI len), .int (nI p), .int (nI k), .ref 47], qS sw gc I J) (q_hn _ _ _ _) rfl ?_
    refine G_callV (b := 47) (ci := 4) (as := [.int (nI k), .int (nI p), .int (nI len), .long F]) (rest := []) rfl rfl rfl (q_lt (by decide)) (by decide) rfl rfl (Nat.le_of_ble_eq_true rfl) (x_mostWith hz hl (by omega) (by omega)) (Nat.le_refl _) ?_
    refine G_st (L := 89) (k := 3) (39, [some (.ref 47), some (.int (nI p)), some (.int (nI len)), some (.long F), none, some (.int (nI k))], [.int (nI p), .ref 51, .int (x_mw I L len F p k)], qS sw gc I J) (q_hn _ _ _ _) rfl ?_
    refine G_iald (i := 51) (n := 41) rfl rfl (q_lt (by decide)) (vp_in_nI (by omega) (by decide)) ?_
    rw [q_clamp (n := p) (by omega)]
    refine G_st (L := 89) (k := 0) (40, [some (.ref 47), some (.int (nI p)), some (.int (nI len)), some (.long F), none, some (.int (nI k))], [.int (I 51 p), .int (x_mw I L len F p k)], qS sw gc I J) (q_hn _ _ _ _) rfl ?_
    refine G_icmp_ne 46 rfl rfl (fun h1 => ?_) (fun h1 => ?_)
    · skip
      refine G_st (L := 89) (k := 2) (16, [some (.ref 47), some (.int (nI p)), some (.int (nI len)), some (.long F), none, some (.int ((nI k) + 1))], [], qS sw gc I J) (q_hn _ _ _ _) rfl ?_
      rw [show (nI k) + 1 = nI (k + 1) from (q_addP rfl rfl)]
      rw [x_pkN, if_neg h1]
      exact ih (k + 1) (by omega)
    · skip
      refine G_st (L := 89) (k := 1) (45, [some (.ref 47), some (.int (nI p)), some (.int (nI len)), some (.long F), none, some (.int (nI k))], [.int (nI k)], qS sw gc I J) (q_hn _ _ _ _) rfl ?_
      exact G_iret rfl rfl (by rw [x_pkN, if_pos h1]; rfl) rfl
theorem x_pieceFor {d : Nat} {sw : Bool} {gc : Nat} {I : Nat → Nat → Int32} {J : Nat → Nat → Int64} {n : Nat} {L : Nat → Nat} (hz : x_Sz I n L) {len p : Nat} {F : Int64} (hl : len ≤ 40) (hp : p < len) : GM (d + 2) 50 [.ref 47, .int (nI p), .int (nI len), .long F] (qS sw gc I J) (some (.int (x_pv (x_pk I L n len F p)))) (qS sw gc I J) := by
  refine GM_of (by decide) (Nat.le_refl _) (Nat.le_of_ble_eq_true rfl) trivial ?_
  refine G_st (L := 89) (k := 0) (0, [some (.ref 47), some (.int (nI p)), some (.int (nI len)), some (.long F), none, none], [], qS sw gc I J) (q_hn _ _ _ _) rfl ?_
  refine G_st (L := 89) (k := 1) (1, [some (.ref 47), some (.int (nI p)), some (.int (nI len)), some (.long F), none, none], [.int (nI p)], qS sw gc I J) (q_hn _ _ _ _) rfl ?_
  refine G_if_lt 10 rfl rfl (fun h9 => absurd h9 (nI_nlt (b := 0) (by omega) (by omega))) (fun _ => ?_)
  refine G_st (L := 89) (k := 2) (7, [some (.ref 47), some (.int (nI p)), some (.int (nI len)), some (.long F), none, none], [.int 40, .int (nI p)], qS sw gc I J) (q_hn _ _ _ _) rfl ?_
  refine G_icmp_le 13 rfl rfl (fun _ => ?_) (fun h9 => absurd (nI_le (b := 40) (by omega) (by decide)) h9)
  refine G_st (L := 89) (k := 2) (16, [some (.ref 47), some (.int (nI p)), some (.int (nI len)), some (.long F), none, some (.int 0)], [], qS sw gc I J) (q_hn _ _ _ _) rfl ?_
  exact x_pf_loop hz hl hp n 0 (by omega)
def q_psl (f : Nat → Option Nat) (L : Nat → Nat) (len : Nat) : Nat → Nat → List (Option Nat)
  | 0, _ => []
  | m + 1, p => if p < len then f p :: q_psl f L len m (match f p with | none => p + 1 | some k => p + L k) else []
def x_putP : List (Option Nat) → Nat → (Nat → Nat → Int32) → (Nat → Nat → Int32)
  | [], _, I => I
  | none :: t, i, I => x_putP t (i + 1) (q_u (q_u (q_u I 52 i (-5)) 47 6 ((I 47 6) + 1)) 47 7 ((I 47 7) + 1))
  | some k :: t, i, I => x_putP t (i + 1) (q_u (q_u I 52 i (nI k)) 47 6 ((I 47 6) + 1))
theorem x_cut_loop {d : Nat} {sw : Bool} {gc : Nat} {J : Nat → Nat → Int64} {n len : Nat} {L : Nat → Nat} {F : Int64} {f : Nat → Option Nat} (hl : len ≤ 40) : ∀ (m i p : Nat) (I : Nat → Nat → Int32), x_Sz I n L → (∀ q, q < len → x_pk I L n len F q = f q) → i ≤ p → p < 100 → len ≤ p + m → G (d + 3) 49 (26, [some (.ref 47), some (.int (nI len)), some (.long F), none, some (.int (nI p)), some (.int (nI i)), none], [], qS sw gc I J) none (qS sw gc (x_putP (q_psl f L len m p) i I) J) := by
  intro m
  induction m with
  | zero =>
    intro i p I hz hf hi hp hm
    refine G_st (L := 89) (k := 2) (30, [some (.ref 47), some (.int (nI len)), some (.long F), none, some (.int (nI p)), some (.int (nI i)), none], [.int 40, .int (nI i)], qS sw gc I J) (q_hn _ _ _ _) rfl ?_
    refine G_icmp_ge 116 rfl rfl (fun h1 => ?_) (fun h1 => ?_)
    · skip
      exact G_ret rfl rfl rfl rfl
    · skip
      refine G_st (L := 89) (k := 2) (36, [some (.ref 47), some (.int (nI len)), some (.long F), none, some (.int (nI p)), some (.int (nI i)), none], [.int (nI len), .int (nI p)], qS sw gc I J) (q_hn _ _ _ _) rfl ?_
      refine G_icmp_ge 116 rfl rfl (fun _ => ?_) (fun h9 => absurd (nI_le (by omega) (by omega)) h9)
      exact G_ret rfl rfl rfl rfl
  | succ m ih =>
    intro i p I hz hf hi hp hm
    by_cases hpl : p < len
    · rw [q_psl, if_pos hpl]
      have h8 := hz.2.1
      cases hfp : f p with
      | none =>
        have hpf := x_pieceFor (d := d) (sw := sw) (gc := gc) (J := J) hz hl hpl (F := F)
        rw [hf p hpl, hfp] at hpf
        refine G_st (L := 89) (k := 2) (30, [some (.ref 47), some (.int (nI len)), some (.long F), none, some (.int (nI p)), some (.int (nI i)), none], [.int 40, .int (nI i)], qS sw gc I J) (q_hn _ _ _ _) rfl ?_
        refine G_icmp_ge 116 rfl rfl (fun h9 => absurd h9 (nI_ge (b := 40) (by omega) (by decide))) (fun _ => ?_)
        refine G_st (L := 89) (k := 2) (36, [some (.ref 47), some (.int (nI len)), some (.long F), none, some (.int (nI p)), some (.int (nI i)), none], [.int (nI len), .int (nI p)], qS sw gc I J) (q_hn _ _ _ _) rfl ?_
        refine G_icmp_ge 116 rfl rfl (fun h9 => absurd h9 (nI_ge (by omega) (by omega))) (fun _ => ?_)
        refine G_st (L := 89) (k := 4) (44, [some (.ref 47), some (.int (nI len)), some (.long F), none, some (.int (nI p)), some (.int (nI i)), none], [.long F, .int (nI len), .int (nI p), .ref 47], qS sw gc I J) (q_hn _ _ _ _) rfl ?_
        refine G_callV (b := 47) (ci := 4) (as := [.int (nI p), .int (nI len), .long F]) (rest := []) rfl rfl rfl (q_lt (by decide)) (by decide) rfl rfl (Nat.le_of_ble_eq_true rfl) hpf (Nat.le_refl _) ?_
        refine G_st (L := 89) (k := 5) (57, [some (.ref 47), some (.int (nI len)), some (.long F), none, some (.int (nI p)), some (.int (nI i)), some (.int (-5))], [.int (-5), .int (nI i), .ref 52], qS sw gc I J) (q_hn _ _ _ _) rfl ?_
        refine G_iast (i := 52) (n := 40) rfl rfl (q_lt (by decide)) (vp_in_nI (by omega) (by decide)) ?_
        rw [q_clamp (n := i) (by omega)]
        refine G_st (L := 89) (k := 2) (60, [some (.ref 47), some (.int (nI len)), some (.long F), none, some (.int (nI p)), some (.int (nI i)), some (.int (-5))], [.ref 47, .ref 47], qS sw gc (q_u I 52 i (-5)) J) (q_hn _ _ _ _) rfl ?_
        refine G_get (ci := 4) (k := 6) (i := 47) rfl rfl rfl (q_lt (by decide)) ?_
        rw [show q_av (qS sw gc (q_u I 52 i (-5)) J) 47 (q_fty 4 6) 6 = .int (I 47 6) from congrArg Value.int (show (q_u I 52 i (-5)) 47 6 = I 47 6 from q_un _ _ (by omega))]
        refine G_st (L := 89) (k := 5) (72, [some (.ref 47), some (.int (nI len)), some (.long F), none, some (.int (nI p)), some (.int (nI i)), some (.int (-5))], [.int (-5), .int (-5)], qS sw gc (q_u (q_u I 52 i (-5)) 47 6 ((I 47 6) + 1)) J) (q_hn _ _ _ _) rfl ?_
        refine G_icmp_ne 85 rfl rfl (fun h9 => absurd h9 (by decide)) (fun _ => ?_)
        refine G_st (L := 89) (k := 2) (77, [some (.ref 47), some (.int (nI len)), some (.long F), none, some (.int (nI p)), some (.int (nI i)), some (.int (-5))], [.ref 47, .ref 47], qS sw gc (q_u (q_u I 52 i (-5)) 47 6 ((I 47 6) + 1)) J) (q_hn _ _ _ _) rfl ?_
        refine G_get (ci := 4) (k := 7) (i := 47) rfl rfl rfl (q_lt (by decide)) ?_
        rw [show q_av (qS sw gc (q_u (q_u I 52 i (-5)) 47 6 ((I 47 6) + 1)) J) 47 (q_fty 4 7) 7 = .int (I 47 7) from congrArg Value.int (show (q_u (q_u I 52 i (-5)) 47 6 ((I 47 6) + 1)) 47 7 = I 47 7 from (q_un _ _ (by omega)).trans (q_un _ _ (by omega)))]
        refine G_st (L := 89) (k := 6) (90, [some (.ref 47), some (.int (nI len)), some (.long F), none, some (.int (nI p)), some (.int (nI i)), some (.int (-5))], [.int (-5), .ref 47, .int (nI p)], qS sw gc (q_u (q_u (q_u I 52 i (-5)) 47 6 ((I 47 6) + 1)) 47 7 ((I 47 7) + 1)) J) (q_hn _ _ _ _) rfl ?_
        refine G_callV (b := 47) (ci := 4) (as := [.int (-5)]) (rest := [.int (nI p)]) rfl rfl rfl (q_lt (by decide)) (by decide) rfl rfl (Nat.le_of_ble_eq_true rfl) (x_hasSizeN (x_Sz.upd (x_Sz.upd (x_Sz.upd hz (by omega) (by omega)) (by omega) (by omega)) (by omega) (by omega)) (Or.inl (by decide))) (Nat.le_refl _) ?_
        refine G_st (L := 89) (k := 0) (93, [some (.ref 47), some (.int (nI len)), some (.long F), none, some (.int (nI p)), some (.int (nI i)), some (.int (-5))], [.int 0, .int (nI p)], qS sw gc (q_u (q_u (q_u I 52 i (-5)) 47 6 ((I 47 6) + 1)) 47 7 ((I 47 7) + 1)) J) (q_hn _ _ _ _) rfl ?_
        refine G_if_eq 106 rfl rfl (fun _ => ?_) (fun h9 => absurd h9 (by decide))
        refine G_st (L := 89) (k := 5) (26, [some (.ref 47), some (.int (nI len)), some (.long F), none, some (.int ((nI p) + 1)), some (.int ((nI i) + 1)), some (.int (-5))], [], qS sw gc (q_u (q_u (q_u I 52 i (-5)) 47 6 ((I 47 6) + 1)) 47 7 ((I 47 7) + 1)) J) (q_hn _ _ _ _) rfl ?_
        rw [show (nI p) + 1 = nI (p + 1) from (q_addP rfl rfl)]
        rw [show (nI i) + 1 = nI (i + 1) from (q_addP rfl rfl)]
        refine G_fg [some (.ref 47), some (.int (nI len)), some (.long F), none, some (.int (nI (p + 1))), some (.int (nI (i + 1))), none] (by repeat (first | exact trivial | refine ⟨rfl, ?_⟩)) ?_
        exact ih (i + 1) (p + 1) _ (x_Sz.upd (x_Sz.upd (x_Sz.upd hz (by omega) (by omega)) (by omega) (by omega)) (by omega) (by omega)) (fun q hq => by rw [x_pk_upd (by omega), x_pk_upd (by omega), x_pk_upd (by omega)]; exact hf q hq) (by omega) (by omega) (by omega)
      | some k =>
        have hpf := x_pieceFor (d := d) (sw := sw) (gc := gc) (J := J) hz hl hpl (F := F)
        rw [hf p hpl, hfp] at hpf
        have hkn := x_pk_lt ((hf p hpl).trans hfp)
        have hLk := hz.2.2 k hkn
        refine G_st (L := 89) (k := 2) (30, [some (.ref 47), some (.int (nI len)), some (.long F), none, some (.int (nI p)), some (.int (nI i)), none], [.int 40, .int (nI i)], qS sw gc I J) (q_hn _ _ _ _) rfl ?_
        refine G_icmp_ge 116 rfl rfl (fun h9 => absurd h9 (nI_ge (b := 40) (by omega) (by decide))) (fun _ => ?_)
        refine G_st (L := 89) (k := 2) (36, [some (.ref 47), some (.int (nI len)), some (.long F), none, some (.int (nI p)), some (.int (nI i)), none], [.int (nI len), .int (nI p)], qS sw gc I J) (q_hn _ _ _ _) rfl ?_
        refine G_icmp_ge 116 rfl rfl (fun h9 => absurd h9 (nI_ge (by omega) (by omega))) (fun _ => ?_)
        refine G_st (L := 89) (k := 4) (44, [some (.ref 47), some (.int (nI len)), some (.long F), none, some (.int (nI p)), some (.int (nI i)), none], [.long F, .int (nI len), .int (nI p), .ref 47], qS sw gc I J) (q_hn _ _ _ _) rfl ?_
        refine G_callV (b := 47) (ci := 4) (as := [.int (nI p), .int (nI len), .long F]) (rest := []) rfl rfl rfl (q_lt (by decide)) (by decide) rfl rfl (Nat.le_of_ble_eq_true rfl) hpf (Nat.le_refl _) ?_
        refine G_st (L := 89) (k := 5) (57, [some (.ref 47), some (.int (nI len)), some (.long F), none, some (.int (nI p)), some (.int (nI i)), some (.int (nI k))], [.int (nI k), .int (nI i), .ref 52], qS sw gc I J) (q_hn _ _ _ _) rfl ?_
        refine G_iast (i := 52) (n := 40) rfl rfl (q_lt (by decide)) (vp_in_nI (by omega) (by decide)) ?_
        rw [q_clamp (n := i) (by omega)]
        refine G_st (L := 89) (k := 2) (60, [some (.ref 47), some (.int (nI len)), some (.long F), none, some (.int (nI p)), some (.int (nI i)), some (.int (nI k))], [.ref 47, .ref 47], qS sw gc (q_u I 52 i (nI k)) J) (q_hn _ _ _ _) rfl ?_
        refine G_get (ci := 4) (k := 6) (i := 47) rfl rfl rfl (q_lt (by decide)) ?_
        rw [show q_av (qS sw gc (q_u I 52 i (nI k)) J) 47 (q_fty 4 6) 6 = .int (I 47 6) from congrArg Value.int (show (q_u I 52 i (nI k)) 47 6 = I 47 6 from q_un _ _ (by omega))]
        refine G_st (L := 89) (k := 5) (72, [some (.ref 47), some (.int (nI len)), some (.long F), none, some (.int (nI p)), some (.int (nI i)), some (.int (nI k))], [.int (-5), .int (nI k)], qS sw gc (q_u (q_u I 52 i (nI k)) 47 6 ((I 47 6) + 1)) J) (q_hn _ _ _ _) rfl ?_
        refine G_icmp_ne 85 rfl rfl (fun _ => ?_) (fun h9 => absurd h9 (fun e9 => absurd e9 (q_neN (by decide) (by have := x_pk_lt ((hf p hpl).trans hfp); omega))))
        refine G_st (L := 89) (k := 3) (90, [some (.ref 47), some (.int (nI len)), some (.long F), none, some (.int (nI p)), some (.int (nI i)), some (.int (nI k))], [.int (nI k), .ref 47, .int (nI p)], qS sw gc (q_u (q_u I 52 i (nI k)) 47 6 ((I 47 6) + 1)) J) (q_hn _ _ _ _) rfl ?_
        refine G_callV (b := 47) (ci := 4) (as := [.int (nI k)]) (rest := [.int (nI p)]) rfl rfl rfl (q_lt (by decide)) (by decide) rfl rfl (Nat.le_of_ble_eq_true rfl) (x_hasSize (x_Sz.upd (x_Sz.upd hz (by omega) (by omega)) (by omega) (by omega)) (x_pk_lt ((hf p hpl).trans hfp))) (Nat.le_refl _) ?_
        refine G_st (L := 89) (k := 0) (93, [some (.ref 47), some (.int (nI len)), some (.long F), none, some (.int (nI p)), some (.int (nI i)), some (.int (nI k))], [.int 1, .int (nI p)], qS sw gc (q_u (q_u I 52 i (nI k)) 47 6 ((I 47 6) + 1)) J) (q_hn _ _ _ _) rfl ?_
        refine G_if_eq 106 rfl rfl (fun h9 => absurd h9 (by decide)) (fun _ => ?_)
        refine G_st (L := 89) (k := 3) (102, [some (.ref 47), some (.int (nI len)), some (.long F), none, some (.int (nI p)), some (.int (nI i)), some (.int (nI k))], [.int (nI k), .ref 48, .int (nI p)], qS sw gc (q_u (q_u I 52 i (nI k)) 47 6 ((I 47 6) + 1)) J) (q_hn _ _ _ _) rfl ?_
        refine G_iald (i := 48) (n := 8) rfl rfl (q_lt (by decide)) (vp_in_nI (by have := x_pk_lt ((hf p hpl).trans hfp); omega) (by decide)) ?_
        rw [q_clamp (n := k) (by omega)]
        rw [show q_i (qS sw gc (q_u (q_u I 52 i (nI k)) 47 6 ((I 47 6) + 1)) J) 48 k = I 48 k from (show (q_u (q_u I 52 i (nI k)) 47 6 ((I 47 6) + 1)) 48 k = I 48 k from (q_un _ _ (by omega)).trans (q_un _ _ (by omega)))]
        refine G_st (L := 89) (k := 5) (26, [some (.ref 47), some (.int (nI len)), some (.long F), none, some (.int ((nI p) + (I 48 k))), some (.int ((nI i) + 1)), some (.int (nI k))], [], qS sw gc (q_u (q_u I 52 i (nI k)) 47 6 ((I 47 6) + 1)) J) (q_hn _ _ _ _) rfl ?_
        rw [show (nI p) + (I 48 k) = nI (p + L k) from (q_addP rfl ((hz.2.2 k hkn).1))]
        rw [show (nI i) + 1 = nI (i + 1) from (q_addP rfl rfl)]
        refine G_fg [some (.ref 47), some (.int (nI len)), some (.long F), none, some (.int (nI (p + L k))), some (.int (nI (i + 1))), none] (by repeat (first | exact trivial | refine ⟨rfl, ?_⟩)) ?_
        exact ih (i + 1) (p + L k) _ (x_Sz.upd (x_Sz.upd hz (by omega) (by omega)) (by omega) (by omega)) (fun q hq => by rw [x_pk_upd (by omega), x_pk_upd (by omega)]; exact hf q hq) (by omega) (by omega) (by omega)
    · rw [q_psl, if_neg hpl]
      refine G_st (L := 89) (k := 2) (30, [some (.ref 47), some (.int (nI len)), some (.long F), none, some (.int (nI p)), some (.int (nI i)), none], [.int 40, .int (nI i)], qS sw gc I J) (q_hn _ _ _ _) rfl ?_
      refine G_icmp_ge 116 rfl rfl (fun h1 => ?_) (fun h1 => ?_)
      · skip
        exact G_ret rfl rfl rfl rfl
      · skip
        refine G_st (L := 89) (k := 2) (36, [some (.ref 47), some (.int (nI len)), some (.long F), none, some (.int (nI p)), some (.int (nI i)), none], [.int (nI len), .int (nI p)], qS sw gc I J) (q_hn _ _ _ _) rfl ?_
        refine G_icmp_ge 116 rfl rfl (fun _ => ?_) (fun h9 => absurd (nI_le (by omega) (by omega)) h9)
        exact G_ret rfl rfl rfl rfl
def x_ct0 (I : Nat → Nat → Int32) (L : Nat → Nat) (n len : Nat) (F : Int64) : Nat → Nat → Int32 := q_u (q_u (q_u (x_mo I L n len F) 47 8 (x_mo I L n len F 51 0)) 47 6 0) 47 7 0
def x_ctI (I : Nat → Nat → Int32) (L : Nat → Nat) (n len : Nat) (F : Int64) : Nat → Nat → Int32 := x_putP (q_psl (fun q => x_pk (x_mo I L n len F) L n len F q) L len len 0) 0 (x_ct0 I L n len F)
theorem x_out_Sz {L : Nat → Nat} {n len : Nat} {F : Int64} : ∀ (p : Nat) (I : Nat → Nat → Int32), x_Sz I n L → x_Sz (x_out L n len F p I) n L
  | 0, I, h => h
  | p + 1, I, h => x_out_Sz p _ (h.upd (by omega) (by omega))
theorem x_mo_Sz {I : Nat → Nat → Int32} {L : Nat → Nat} {n len : Nat} {F : Int64} (h : x_Sz I n L) : x_Sz (x_mo I L n len F) n L := x_out_Sz _ _ (h.upd (by omega) (by omega))
theorem x_cut_ {d : Nat} {sw : Bool} {gc : Nat} {I : Nat → Nat → Int32} {J : Nat → Nat → Int64} {n : Nat} {L : Nat → Nat} (hz : x_Sz I n L) {len : Nat} {F : Int64} (hl : len ≤ 40) (hl1 : 1 ≤ len) (hb : f_isBlock (lN len) F = 1) : GM (d + 3) 49 [.ref 47, .int (nI len), .long F] (qS sw gc I J) (none) (qS sw gc (x_ctI I L n len F) J) := by
  refine GM_of (by decide) (Nat.le_refl _) (Nat.le_of_ble_eq_true rfl) trivial ?_
  refine G_st (L := 89) (k := 0) (0, [some (.ref 47), some (.int (nI len)), some (.long F), none, none, none, none], [], qS sw gc I J) (q_hn _ _ _ _) rfl ?_
  refine G_st (L := 89) (k := 4) (4, [some (.ref 47), some (.int (nI len)), some (.long F), none, none, none, none], [.long F, .int (nI len), .ref 47, .ref 47], qS sw gc I J) (q_hn _ _ _ _) rfl ?_
  refine G_callV (b := 47) (ci := 4) (as := [.int (nI len), .long F]) (rest := [.ref 47]) rfl rfl rfl (q_lt (by decide)) (by decide) rfl rfl (Nat.le_of_ble_eq_true rfl) (x_mostOf hz hl hl1 hb) (Nat.le_refl _) ?_
  refine G_st (L := 89) (k := 11) (26, [some (.ref 47), some (.int (nI len)), some (.long F), none, some (.int 0), some (.int 0), none], [], qS sw gc (q_u (q_u (q_u (x_mo I L n len F) 47 8 (x_mo I L n len F 51 0)) 47 6 0) 47 7 0) J) (q_hn _ _ _ _) rfl ?_
  exact x_cut_loop hl len 0 0 _ (x_Sz.upd (x_Sz.upd (x_Sz.upd (x_mo_Sz hz) (by omega) (by omega)) (by omega) (by omega)) (by omega) (by omega)) (fun q hq => by rw [x_pk_upd (by omega), x_pk_upd (by omega), x_pk_upd (by omega)]) (by omega) (by omega) (by omega)
theorem x_pieceAt {d : Nat} {sw : Bool} {gc : Nat} {I : Nat → Nat → Int32} {J : Nat → Nat → Int64} {c i : Nat} (hc : I 47 6 = nI c) (hc40 : c ≤ 40) (hi : i < c) : GM d 51 [.ref 47, .int (nI i)] (qS sw gc I J) (some (.int (I 52 i))) (qS sw gc I J) := by
  refine GM_of (by decide) (Nat.le_refl _) (Nat.le_of_ble_eq_true rfl) trivial ?_
  refine G_st (L := 89) (k := 0) (0, [some (.ref 47), some (.int (nI i))], [], qS sw gc I J) (q_hn _ _ _ _) rfl ?_
  refine G_st (L := 89) (k := 1) (1, [some (.ref 47), some (.int (nI i))], [.int (nI i)], qS sw gc I J) (q_hn _ _ _ _) rfl ?_
  refine G_if_lt 18 rfl rfl (fun h9 => absurd h9 (nI_nlt (b := 0) (by omega) (by omega))) (fun _ => ?_)
  refine G_st (L := 89) (k := 3) (9, [some (.ref 47), some (.int (nI i))], [.int (I 47 6), .int (nI i)], qS sw gc I J) (q_hn _ _ _ _) rfl ?_
  rw [show I 47 6 = nI c from hc]
  refine G_icmp_ge 18 rfl rfl (fun h9 => absurd h9 (nI_ge (by omega) (by omega))) (fun _ => ?_)
  refine G_st (L := 89) (k := 2) (15, [some (.ref 47), some (.int (nI i))], [.int 40, .int (nI i)], qS sw gc I J) (q_hn _ _ _ _) rfl ?_
  refine G_icmp_lt 23 rfl rfl (fun _ => ?_) (fun h9 => absurd (nI_lt (b := 40) (by omega) (by decide)) h9)
  refine G_st (L := 89) (k := 3) (28, [some (.ref 47), some (.int (nI i))], [.int (nI i), .ref 52], qS sw gc I J) (q_hn _ _ _ _) rfl ?_
  refine G_iald (i := 52) (n := 40) rfl rfl (q_lt (by decide)) (vp_in_nI (by omega) (by decide)) ?_
  rw [q_clamp (n := i) (by omega)]
  refine G_st (L := 89) (k := 0) (29, [some (.ref 47), some (.int (nI i))], [.int (I 52 i)], qS sw gc I J) (q_hn _ _ _ _) rfl ?_
  exact G_iret rfl rfl rfl rfl
theorem x_pieceAtN {d : Nat} {sw : Bool} {gc : Nat} {I : Nat → Nat → Int32} {J : Nat → Nat → Int64} {c : Nat} {x : Int32} (hc : I 47 6 = nI c) (hx : x < 0 ∨ nI c ≤ x) : GM d 51 [.ref 47, .int x] (qS sw gc I J) (some (.int (-4))) (qS sw gc I J) := by
  refine GM_of (by decide) (Nat.le_refl _) (Nat.le_of_ble_eq_true rfl) trivial ?_
  refine G_st (L := 89) (k := 0) (0, [some (.ref 47), some (.int x)], [], qS sw gc I J) (q_hn _ _ _ _) rfl ?_
  refine G_st (L := 89) (k := 1) (1, [some (.ref 47), some (.int x)], [.int x], qS sw gc I J) (q_hn _ _ _ _) rfl ?_
  refine G_if_lt 18 rfl rfl (fun h1 => ?_) (fun h1 => ?_)
  · skip
    refine G_st (L := 89) (k := 2) (29, [some (.ref 47), some (.int x)], [.int (-4)], qS sw gc I J) (q_hn _ _ _ _) rfl ?_
    exact G_iret rfl rfl rfl rfl
  · skip
    refine G_st (L := 89) (k := 3) (9, [some (.ref 47), some (.int x)], [.int (I 47 6), .int x], qS sw gc I J) (q_hn _ _ _ _) rfl ?_
    rw [show I 47 6 = nI c from hc]
    refine G_icmp_ge 18 rfl rfl (fun _ => ?_) (fun h9 => absurd (hx.resolve_left h1) h9)
    refine G_st (L := 89) (k := 2) (29, [some (.ref 47), some (.int x)], [.int (-4)], qS sw gc I J) (q_hn _ _ _ _) rfl ?_
    exact G_iret rfl rfl rfl rfl
def x_csl : List (Option Nat) → (Nat → Nat → Int32) → (Nat → Nat → Int32)
  | [], I => I
  | none :: t, I => x_csl t I
  | some k :: t, I => x_csl t (q_u I 50 k ((I 50 k) + 1))
theorem x_cs_loop {d : Nat} {sw : Bool} {gc : Nat} {J : Nat → Nat → Int64} {n c : Nat} {L : Nat → Nat} (hc40 : c ≤ 40) : ∀ (l : List (Option Nat)) (i : Nat) (I : Nat → Nat → Int32), x_Sz I n L → I 47 6 = nI c → i + l.length = c → (∀ j o, l[j]? = some o → I 52 (i + j) = x_pv o ∧ ∀ k, o = some k → k < n) → G (d + 1) 52 (2, [some (.ref 47), some (.int (nI i)), none], [], qS sw gc I J) none (qS sw gc (x_csl l I) J) := by
  intro l
  induction l with
  | nil =>
    intro i I hz hc hi hl
    obtain rfl : i = c := by simpa using hi
    refine G_st (L := 89) (k := 3) (7, [some (.ref 47), some (.int (nI i)), none], [.int (I 47 6), .int (nI i)], qS sw gc I J) (q_hn _ _ _ _) rfl ?_
    rw [show I 47 6 = nI i from hc]
    refine G_icmp_ge 40 rfl rfl (fun _ => ?_) (fun h9 => absurd (nI_le (Nat.le_refl _) (by omega)) h9)
    exact G_ret rfl rfl rfl rfl
  | cons o t ih =>
    intro i I hz hc hi hl
    have hi2 : i < c := by rw [List.length_cons] at hi; omega
    have h8 := hz.2.1
    have hpa := x_pieceAt (d := d) (sw := sw) (gc := gc) (J := J) hc hc40 hi2
    have h0 := hl 0 o rfl
    rw [Nat.add_zero] at h0
    rw [h0.1] at hpa
    cases o with
    | none =>
      refine G_st (L := 89) (k := 3) (7, [some (.ref 47), some (.int (nI i)), none], [.int (I 47 6), .int (nI i)], qS sw gc I J) (q_hn _ _ _ _) rfl ?_
      rw [show I 47 6 = nI c from hc]
      refine G_icmp_ge 40 rfl rfl (fun h9 => absurd h9 (nI_ge (by omega) (by omega))) (fun _ => ?_)
      refine G_st (L := 89) (k := 2) (12, [some (.ref 47), some (.int (nI i)), none], [.int (nI i), .ref 47], qS sw gc I J) (q_hn _ _ _ _) rfl ?_
      refine G_callV (b := 47) (ci := 4) (as := [.int (nI i)]) (rest := []) rfl rfl rfl (q_lt (by decide)) (by decide) rfl rfl (Nat.le_of_ble_eq_true rfl) hpa (Nat.le_refl _) ?_
      refine G_st (L := 89) (k := 3) (18, [some (.ref 47), some (.int (nI i)), some (.int (-5))], [.int (-5), .ref 47], qS sw gc I J) (q_hn _ _ _ _) rfl ?_
      refine G_callV (b := 47) (ci := 4) (as := [.int (-5)]) (rest := []) rfl rfl rfl (q_lt (by decide)) (by decide) rfl rfl (Nat.le_of_ble_eq_true rfl) (x_hasSizeN hz (Or.inl (by decide))) (Nat.le_refl _) ?_
      refine G_st (L := 89) (k := 0) (21, [some (.ref 47), some (.int (nI i)), some (.int (-5))], [.int 0], qS sw gc I J) (q_hn _ _ _ _) rfl ?_
      refine G_if_eq 34 rfl rfl (fun _ => ?_) (fun h9 => absurd h9 (by decide))
      refine G_st (L := 89) (k := 2) (2, [some (.ref 47), some (.int ((nI i) + 1)), some (.int (-5))], [], qS sw gc I J) (q_hn _ _ _ _) rfl ?_
      rw [show (nI i) + 1 = nI (i + 1) from (q_addP rfl rfl)]
      refine G_fg [some (.ref 47), some (.int (nI (i + 1))), none] (by repeat (first | exact trivial | refine ⟨rfl, ?_⟩)) ?_
      exact ih (i + 1) I hz hc (by rw [List.length_cons] at hi; omega) (fun j o2 hj => by have := hl (j + 1) o2 hj; rw [show i + (j + 1) = i + 1 + j by omega] at this; exact this)
    | some k =>
      have hkn := h0.2 k rfl
      refine G_st (L := 89) (k := 3) (7, [some (.ref 47), some (.int (nI i)), none], [.int (I 47 6), .int (nI i)], qS sw gc I J) (q_hn _ _ _ _) rfl ?_
      rw [show I 47 6 = nI c from hc]
      refine G_icmp_ge 40 rfl rfl (fun h9 => absurd h9 (nI_ge (by omega) (by omega))) (fun _ => ?_)
      refine G_st (L := 89) (k := 2) (12, [some (.ref 47), some (.int (nI i)), none], [.int (nI i), .ref 47], qS sw gc I J) (q_hn _ _ _ _) rfl ?_
      refine G_callV (b := 47) (ci := 4) (as := [.int (nI i)]) (rest := []) rfl rfl rfl (q_lt (by decide)) (by decide) rfl rfl (Nat.le_of_ble_eq_true rfl) hpa (Nat.le_refl _) ?_
      refine G_st (L := 89) (k := 3) (18, [some (.ref 47), some (.int (nI i)), some (.int (nI k))], [.int (nI k), .ref 47], qS sw gc I J) (q_hn _ _ _ _) rfl ?_
      refine G_callV (b := 47) (ci := 4) (as := [.int (nI k)]) (rest := []) rfl rfl rfl (q_lt (by decide)) (by decide) rfl rfl (Nat.le_of_ble_eq_true rfl) (x_hasSize hz hkn) (Nat.le_refl _) ?_
      refine G_st (L := 89) (k := 0) (21, [some (.ref 47), some (.int (nI i)), some (.int (nI k))], [.int 1], qS sw gc I J) (q_hn _ _ _ _) rfl ?_
      refine G_if_eq 34 rfl rfl (fun h9 => absurd h9 (by decide)) (fun _ => ?_)
      refine G_st (L := 89) (k := 4) (30, [some (.ref 47), some (.int (nI i)), some (.int (nI k))], [.int (nI k), .ref 50, .int (nI k), .ref 50], qS sw gc I J) (q_hn _ _ _ _) rfl ?_
      refine G_iald (i := 50) (n := 8) rfl rfl (q_lt (by decide)) (vp_in_nI (by omega) (by decide)) ?_
      rw [q_clamp (n := k) (by omega)]
      refine G_st (L := 89) (k := 2) (33, [some (.ref 47), some (.int (nI i)), some (.int (nI k))], [.int ((I 50 k) + 1), .int (nI k), .ref 50], qS sw gc I J) (q_hn _ _ _ _) rfl ?_
      refine G_iast (i := 50) (n := 8) rfl rfl (q_lt (by decide)) (vp_in_nI (by omega) (by decide)) ?_
      rw [q_clamp (n := k) (by omega)]
      refine G_st (L := 89) (k := 2) (2, [some (.ref 47), some (.int ((nI i) + 1)), some (.int (nI k))], [], qS sw gc (q_u I 50 k ((I 50 k) + 1)) J) (q_hn _ _ _ _) rfl ?_
      rw [show (nI i) + 1 = nI (i + 1) from (q_addP rfl rfl)]
      refine G_fg [some (.ref 47), some (.int (nI (i + 1))), none] (by repeat (first | exact trivial | refine ⟨rfl, ?_⟩)) ?_
      exact ih (i + 1) _ (hz.upd (by omega) (by omega)) (by rw [q_un _ _ (by omega)]; exact hc) (by rw [List.length_cons] at hi; omega) (fun j o2 hj => by have := hl (j + 1) o2 hj; rw [show i + (j + 1) = i + 1 + j by omega] at this; rw [q_un _ _ (by omega)]; exact this)
theorem x_countSlates {d : Nat} {sw : Bool} {gc : Nat} {I : Nat → Nat → Int32} {J : Nat → Nat → Int64} {n : Nat} {L : Nat → Nat} (hz : x_Sz I n L) {c : Nat} {l : List (Option Nat)} (hc40 : c ≤ 40) (hc : I 47 6 = nI c) (hlen : l.length = c) (hl : ∀ (j : Nat) (o : Option Nat), l[j]? = some o → I 52 j = x_pv o ∧ ∀ k, o = some k → k < n) : GM (d + 1) 52 [.ref 47] (qS sw gc I J) (none) (qS sw gc (x_csl l I) J) := by
  refine GM_of (by decide) (Nat.le_refl _) (Nat.le_of_ble_eq_true rfl) trivial ?_
  refine G_st (L := 89) (k := 0) (0, [some (.ref 47), none, none], [], qS sw gc I J) (q_hn _ _ _ _) rfl ?_
  refine G_st (L := 89) (k := 2) (2, [some (.ref 47), some (.int 0), none], [], qS sw gc I J) (q_hn _ _ _ _) rfl ?_
  exact x_cs_loop hc40 l 0 I hz hc (by omega) (fun j o hj => by rw [Nat.zero_add]; exact hl j o hj)
end
section
def x_bk (sw : Bool) : Nat := cond sw 9 4
theorem f_isNumberLaw_in {k : Nat} (h : k < 4) : f_isNumberLaw (nI k) = 1 := by
  unfold f_isNumberLaw
  rcases (show k = 0 ∨ k = 1 ∨ k = 2 ∨ k = 3 by omega) with rfl | rfl | rfl | rfl <;> decide
theorem x_numberOf4 {d : Nat} {sw : Bool} {gc : Nat} {I : Nat → Nat → Int32} {J : Nat → Nat → Int64} {k : Nat} (hk : k < 4) : GM (d + 1) 27 [.ref 4, .int (nI k)] (qS sw gc I J) (some (.int (I 5 k))) (qS sw gc I J) := by
  have hnl := m_isNumberLaw (d := d) (M := qS sw gc I J) (nI k)
  rw [f_isNumberLaw_in hk] at hnl
  refine GM_of (by decide) (Nat.le_refl _) (Nat.le_of_ble_eq_true rfl) trivial ?_
  refine G_st (L := 89) (k := 0) (0, [some (.ref 4), some (.int (nI k))], [], qS sw gc I J) (q_hn _ _ _ _) rfl ?_
  refine G_st (L := 89) (k := 1) (1, [some (.ref 4), some (.int (nI k))], [.int (nI k)], qS sw gc I J) (q_hn _ _ _ _) rfl ?_
  refine G_callS (as := [.int (nI k)]) (rest := []) rfl rfl rfl (Nat.le_of_ble_eq_true rfl) hnl (Nat.le_refl _) ?_
  refine G_st (L := 89) (k := 0) (4, [some (.ref 4), some (.int (nI k))], [.int 1], qS sw gc I J) (q_hn _ _ _ _) rfl ?_
  refine G_if_eq 16 rfl rfl (fun h9 => absurd h9 (by decide)) (fun _ => ?_)
  refine G_st (L := 89) (k := 3) (12, [some (.ref 4), some (.int (nI k))], [.int (nI k), .ref 5], qS sw gc I J) (q_hn _ _ _ _) rfl ?_
  refine G_iald (i := 5) (n := 4) rfl rfl (q_lt (by decide)) (vp_in_nI (by omega) (by decide)) ?_
  rw [q_clamp (n := k) (by omega)]
  refine G_st (L := 89) (k := 1) (18, [some (.ref 4), some (.int (nI k))], [.int (I 5 k)], qS sw gc I J) (q_hn _ _ _ _) rfl ?_
  exact G_iret rfl rfl rfl rfl
def x_pd4 (I : Nat → Nat → Int32) (g : Int32) : Nat → Nat → Int32
  | 0, _ => 0
  | m + 1, i => if (I 7 i) < g then x_pd4 I g m (i + 1) else I 8 i
theorem x_pd4_loop {d : Nat} {sw : Bool} {gc : Nat} {I : Nat → Nat → Int32} {J : Nat → Nat → Int64} {g : Int32} {c : Nat} (hc : I 4 4 = nI c) (hc4 : c ≤ 4) : ∀ (m i : Nat), i + m = c → G d 28 (2, [some (.ref 4), some (.int g), some (.int (nI i))], [], qS sw gc I J) (some (.int (x_pd4 I g m i))) (qS sw gc I J) := by
  intro m
  induction m with
  | zero =>
    intro i h
    obtain rfl : i = c := by omega
    refine G_st (L := 89) (k := 3) (7, [some (.ref 4), some (.int g), some (.int (nI i))], [.int (I 4 4), .int (nI i)], qS sw gc I J) (q_hn _ _ _ _) rfl ?_
    rw [show I 4 4 = nI i from hc]
    refine G_icmp_ge 38 rfl rfl (fun _ => ?_) (fun h9 => absurd (nI_le (Nat.le_refl _) (by omega)) h9)
    refine G_st (L := 89) (k := 1) (39, [some (.ref 4), some (.int g), some (.int (nI i))], [.int 0], qS sw gc I J) (q_hn _ _ _ _) rfl ?_
    exact G_iret rfl rfl rfl rfl
  | succ m ih =>
    intro i h
    refine G_st (L := 89) (k := 3) (7, [some (.ref 4), some (.int g), some (.int (nI i))], [.int (I 4 4), .int (nI i)], qS sw gc I J) (q_hn _ _ _ _) rfl ?_
    rw [show I 4 4 = nI c from hc]
    refine G_icmp_ge 38 rfl rfl (fun h9 => absurd h9 (nI_ge (by omega) (by omega))) (fun _ => ?_)
    refine G_st (L := 89) (k := 2) (12, [some (.ref 4), some (.int g), some (.int (nI i))], [.int 4, .int (nI i)], qS sw gc I J) (q_hn _ _ _ _) rfl ?_
    refine G_icmp_ge 38 rfl rfl (fun h9 => absurd h9 (nI_ge (b := 4) (by omega) (by decide))) (fun _ => ?_)
    refine G_st (L := 89) (k := 3) (20, [some (.ref 4), some (.int g), some (.int (nI i))], [.int (nI i), .ref 7], qS sw gc I J) (q_hn _ _ _ _) rfl ?_
    refine G_iald (i := 7) (n := 4) rfl rfl (q_lt (by decide)) (vp_in_nI (by omega) (by decide)) ?_
    rw [q_clamp (n := i) (by omega)]
    refine G_st (L := 89) (k := 1) (22, [some (.ref 4), some (.int g), some (.int (nI i))], [.int g, .int (I 7 i)], qS sw gc I J) (q_hn _ _ _ _) rfl ?_
    refine G_icmp_lt 32 rfl rfl (fun h1 => ?_) (fun h1 => ?_)
    · skip
      refine G_st (L := 89) (k := 2) (2, [some (.ref 4), some (.int g), some (.int ((nI i) + 1))], [], qS sw gc I J) (q_hn _ _ _ _) rfl ?_
      rw [show (nI i) + 1 = nI (i + 1) from (q_addP rfl rfl)]
      rw [x_pd4, if_pos h1]
      exact ih (i + 1) (by omega)
    · skip
      refine G_st (L := 89) (k := 3) (30, [some (.ref 4), some (.int g), some (.int (nI i))], [.int (nI i), .ref 8], qS sw gc I J) (q_hn _ _ _ _) rfl ?_
      refine G_iald (i := 8) (n := 4) rfl rfl (q_lt (by decide)) (vp_in_nI (by omega) (by decide)) ?_
      rw [q_clamp (n := i) (by omega)]
      refine G_st (L := 89) (k := 0) (31, [some (.ref 4), some (.int g), some (.int (nI i))], [.int (I 8 i)], qS sw gc I J) (q_hn _ _ _ _) rfl ?_
      exact G_iret rfl rfl (by rw [x_pd4, if_neg h1]) rfl
theorem x_poundageOf4 {d : Nat} {sw : Bool} {gc : Nat} {I : Nat → Nat → Int32} {J : Nat → Nat → Int64} {g : Int32} {c : Nat} (hc : I 4 4 = nI c) (hc4 : c ≤ 4) : GM d 28 [.ref 4, .int g] (qS sw gc I J) (some (.int (x_pd4 I g c 0))) (qS sw gc I J) := by
  refine GM_of (by decide) (Nat.le_refl _) (Nat.le_of_ble_eq_true rfl) trivial ?_
  refine G_st (L := 89) (k := 0) (0, [some (.ref 4), some (.int g), none], [], qS sw gc I J) (q_hn _ _ _ _) rfl ?_
  refine G_st (L := 89) (k := 2) (2, [some (.ref 4), some (.int g), some (.int 0)], [], qS sw gc I J) (q_hn _ _ _ _) rfl ?_
  exact x_pd4_loop hc hc4 c 0 (by omega)
def x_la4 (I : Nat → Nat → Int32) (p : Int32) : Bool := decide (I 5 0 = (-4)) || !decide (I 5 0 < p)
theorem x_letsAsk4 {d : Nat} {sw : Bool} {gc : Nat} {I : Nat → Nat → Int32} {J : Nat → Nat → Int64} {p : Int32} : GM d 29 [.ref 4, .int p] (qS sw gc I J) (some (.int (q_b (x_la4 I p)))) (qS sw gc I J) := by
  refine GM_of (by decide) (Nat.le_refl _) (Nat.le_of_ble_eq_true rfl) q_bn ?_
  refine G_st (L := 89) (k := 0) (0, [some (.ref 4), some (.int p)], [], qS sw gc I J) (q_hn _ _ _ _) rfl ?_
  refine G_st (L := 89) (k := 3) (5, [some (.ref 4), some (.int p)], [.int 0, .ref 5], qS sw gc I J) (q_hn _ _ _ _) rfl ?_
  refine G_iald (i := 5) (n := 4) rfl rfl (q_lt (by decide)) (by unfold vp_in; decide) ?_
  refine G_st (L := 89) (k := 1) (8, [some (.ref 4), some (.int p)], [.int (-4), .int (I 5 0)], qS sw gc I J) (q_hn _ _ _ _) rfl ?_
  refine G_icmp_eq 21 rfl rfl (fun h1 => ?_) (fun h1 => ?_)
  · skip
    refine G_st (L := 89) (k := 2) (26, [some (.ref 4), some (.int p)], [.int 1], qS sw gc I J) (q_hn _ _ _ _) rfl ?_
    exact G_iret rfl rfl (by unfold x_la4; rw [decide_eq_true h1]; rfl) rfl
  · skip
    refine G_st (L := 89) (k := 4) (17, [some (.ref 4), some (.int p)], [.int 0, .ref 5, .int p], qS sw gc I J) (q_hn _ _ _ _) rfl ?_
    refine G_iald (i := 5) (n := 4) rfl rfl (q_lt (by decide)) (by unfold vp_in; decide) ?_
    refine G_st (L := 89) (k := 0) (18, [some (.ref 4), some (.int p)], [.int (I 5 0), .int p], qS sw gc I J) (q_hn _ _ _ _) rfl ?_
    refine G_icmp_gt 25 rfl rfl (fun h2 => ?_) (fun h2 => ?_)
    · skip
      refine G_st (L := 89) (k := 1) (26, [some (.ref 4), some (.int p)], [.int 0], qS sw gc I J) (q_hn _ _ _ _) rfl ?_
      exact G_iret rfl rfl (by unfold x_la4; rw [decide_eq_false h1, decide_eq_true h2]; rfl) rfl
    · skip
      refine G_st (L := 89) (k := 2) (26, [some (.ref 4), some (.int p)], [.int 1], qS sw gc I J) (q_hn _ _ _ _) rfl ?_
      exact G_iret rfl rfl (by unfold x_la4; rw [decide_eq_false h1, decide_eq_false h2]; rfl) rfl
theorem x_numberOf9 {d : Nat} {sw : Bool} {gc : Nat} {I : Nat → Nat → Int32} {J : Nat → Nat → Int64} {k : Nat} (hk : k < 4) : GM (d + 1) 27 [.ref 9, .int (nI k)] (qS sw gc I J) (some (.int (I 10 k))) (qS sw gc I J) := by
  have hnl := m_isNumberLaw (d := d) (M := qS sw gc I J) (nI k)
  rw [f_isNumberLaw_in hk] at hnl
  refine GM_of (by decide) (Nat.le_refl _) (Nat.le_of_ble_eq_true rfl) trivial ?_
  refine G_st (L := 89) (k := 0) (0, [some (.ref 9), some (.int (nI k))], [], qS sw gc I J) (q_hn _ _ _ _) rfl ?_
  refine G_st (L := 89) (k := 1) (1, [some (.ref 9), some (.int (nI k))], [.int (nI k)], qS sw gc I J) (q_hn _ _ _ _) rfl ?_
  refine G_callS (as := [.int (nI k)]) (rest := []) rfl rfl rfl (Nat.le_of_ble_eq_true rfl) hnl (Nat.le_refl _) ?_
  refine G_st (L := 89) (k := 0) (4, [some (.ref 9), some (.int (nI k))], [.int 1], qS sw gc I J) (q_hn _ _ _ _) rfl ?_
  refine G_if_eq 16 rfl rfl (fun h9 => absurd h9 (by decide)) (fun _ => ?_)
  refine G_st (L := 89) (k := 3) (12, [some (.ref 9), some (.int (nI k))], [.int (nI k), .ref 10], qS sw gc I J) (q_hn _ _ _ _) rfl ?_
  refine G_iald (i := 10) (n := 4) rfl rfl (q_lt (by decide)) (vp_in_nI (by omega) (by decide)) ?_
  rw [q_clamp (n := k) (by omega)]
  refine G_st (L := 89) (k := 1) (18, [some (.ref 9), some (.int (nI k))], [.int (I 10 k)], qS sw gc I J) (q_hn _ _ _ _) rfl ?_
  exact G_iret rfl rfl rfl rfl
def x_pd9 (I : Nat → Nat → Int32) (g : Int32) : Nat → Nat → Int32
  | 0, _ => 0
  | m + 1, i => if (I 12 i) < g then x_pd9 I g m (i + 1) else I 13 i
theorem x_pd9_loop {d : Nat} {sw : Bool} {gc : Nat} {I : Nat → Nat → Int32} {J : Nat → Nat → Int64} {g : Int32} {c : Nat} (hc : I 9 4 = nI c) (hc4 : c ≤ 4) : ∀ (m i : Nat), i + m = c → G d 28 (2, [some (.ref 9), some (.int g), some (.int (nI i))], [], qS sw gc I J) (some (.int (x_pd9 I g m i))) (qS sw gc I J) := by
  intro m
  induction m with
  | zero =>
    intro i h
    obtain rfl : i = c := by omega
    refine G_st (L := 89) (k := 3) (7, [some (.ref 9), some (.int g), some (.int (nI i))], [.int (I 9 4), .int (nI i)], qS sw gc I J) (q_hn _ _ _ _) rfl ?_
    rw [show I 9 4 = nI i from hc]
    refine G_icmp_ge 38 rfl rfl (fun _ => ?_) (fun h9 => absurd (nI_le (Nat.le_refl _) (by omega)) h9)
    refine G_st (L := 89) (k := 1) (39, [some (.ref 9), some (.int g), some (.int (nI i))], [.int 0], qS sw gc I J) (q_hn _ _ _ _) rfl ?_
    exact G_iret rfl rfl rfl rfl
  | succ m ih =>
    intro i h
    refine G_st (L := 89) (k := 3) (7, [some (.ref 9), some (.int g), some (.int (nI i))], [.int (I 9 4), .int (nI i)], qS sw gc I J) (q_hn _ _ _ _) rfl ?_
    rw [show I 9 4 = nI c from hc]
    refine G_icmp_ge 38 rfl rfl (fun h9 => absurd h9 (nI_ge (by omega) (by omega))) (fun _ => ?_)
    refine G_st (L := 89) (k := 2) (12, [some (.ref 9), some (.int g), some (.int (nI i))], [.int 4, .int (nI i)], qS sw gc I J) (q_hn _ _ _ _) rfl ?_
    refine G_icmp_ge 38 rfl rfl (fun h9 => absurd h9 (nI_ge (b := 4) (by omega) (by decide))) (fun _ => ?_)
    refine G_st (L := 89) (k := 3) (20, [some (.ref 9), some (.int g), some (.int (nI i))], [.int (nI i), .ref 12], qS sw gc I J) (q_hn _ _ _ _) rfl ?_
    refine G_iald (i := 12) (n := 4) rfl rfl (q_lt (by decide)) (vp_in_nI (by omega) (by decide)) ?_
    rw [q_clamp (n := i) (by omega)]
    refine G_st (L := 89) (k := 1) (22, [some (.ref 9), some (.int g), some (.int (nI i))], [.int g, .int (I 12 i)], qS sw gc I J) (q_hn _ _ _ _) rfl ?_
    refine G_icmp_lt 32 rfl rfl (fun h1 => ?_) (fun h1 => ?_)
    · skip
      refine G_st (L := 89) (k := 2) (2, [some (.ref 9), some (.int g), some (.int ((nI i) + 1))], [], qS sw gc I J) (q_hn _ _ _ _) rfl ?_
      rw [show (nI i) + 1 = nI (i + 1) from (q_addP rfl rfl)]
      rw [x_pd9, if_pos h1]
      exact ih (i + 1) (by omega)
    · skip
      refine G_st (L := 89) (k := 3) (30, [some (.ref 9), some (.int g), some (.int (nI i))], [.int (nI i), .ref 13], qS sw gc I J) (q_hn _ _ _ _) rfl ?_
      refine G_iald (i := 13) (n := 4) rfl rfl (q_lt (by decide)) (vp_in_nI (by omega) (by decide)) ?_
      rw [q_clamp (n := i) (by omega)]
      refine G_st (L := 89) (k := 0) (31, [some (.ref 9), some (.int g), some (.int (nI i))], [.int (I 13 i)], qS sw gc I J) (q_hn _ _ _ _) rfl ?_
      exact G_iret rfl rfl (by rw [x_pd9, if_neg h1]) rfl
theorem x_poundageOf9 {d : Nat} {sw : Bool} {gc : Nat} {I : Nat → Nat → Int32} {J : Nat → Nat → Int64} {g : Int32} {c : Nat} (hc : I 9 4 = nI c) (hc4 : c ≤ 4) : GM d 28 [.ref 9, .int g] (qS sw gc I J) (some (.int (x_pd9 I g c 0))) (qS sw gc I J) := by
  refine GM_of (by decide) (Nat.le_refl _) (Nat.le_of_ble_eq_true rfl) trivial ?_
  refine G_st (L := 89) (k := 0) (0, [some (.ref 9), some (.int g), none], [], qS sw gc I J) (q_hn _ _ _ _) rfl ?_
  refine G_st (L := 89) (k := 2) (2, [some (.ref 9), some (.int g), some (.int 0)], [], qS sw gc I J) (q_hn _ _ _ _) rfl ?_
  exact x_pd9_loop hc hc4 c 0 (by omega)
def x_la9 (I : Nat → Nat → Int32) (p : Int32) : Bool := decide (I 10 0 = (-4)) || !decide (I 10 0 < p)
theorem x_letsAsk9 {d : Nat} {sw : Bool} {gc : Nat} {I : Nat → Nat → Int32} {J : Nat → Nat → Int64} {p : Int32} : GM d 29 [.ref 9, .int p] (qS sw gc I J) (some (.int (q_b (x_la9 I p)))) (qS sw gc I J) := by
  refine GM_of (by decide) (Nat.le_refl _) (Nat.le_of_ble_eq_true rfl) q_bn ?_
  refine G_st (L := 89) (k := 0) (0, [some (.ref 9), some (.int p)], [], qS sw gc I J) (q_hn _ _ _ _) rfl ?_
  refine G_st (L := 89) (k := 3) (5, [some (.ref 9), some (.int p)], [.int 0, .ref 10], qS sw gc I J) (q_hn _ _ _ _) rfl ?_
  refine G_iald (i := 10) (n := 4) rfl rfl (q_lt (by decide)) (by unfold vp_in; decide) ?_
  refine G_st (L := 89) (k := 1) (8, [some (.ref 9), some (.int p)], [.int (-4), .int (I 10 0)], qS sw gc I J) (q_hn _ _ _ _) rfl ?_
  refine G_icmp_eq 21 rfl rfl (fun h1 => ?_) (fun h1 => ?_)
  · skip
    refine G_st (L := 89) (k := 2) (26, [some (.ref 9), some (.int p)], [.int 1], qS sw gc I J) (q_hn _ _ _ _) rfl ?_
    exact G_iret rfl rfl (by unfold x_la9; rw [decide_eq_true h1]; rfl) rfl
  · skip
    refine G_st (L := 89) (k := 4) (17, [some (.ref 9), some (.int p)], [.int 0, .ref 10, .int p], qS sw gc I J) (q_hn _ _ _ _) rfl ?_
    refine G_iald (i := 10) (n := 4) rfl rfl (q_lt (by decide)) (by unfold vp_in; decide) ?_
    refine G_st (L := 89) (k := 0) (18, [some (.ref 9), some (.int p)], [.int (I 10 0), .int p], qS sw gc I J) (q_hn _ _ _ _) rfl ?_
    refine G_icmp_gt 25 rfl rfl (fun h2 => ?_) (fun h2 => ?_)
    · skip
      refine G_st (L := 89) (k := 1) (26, [some (.ref 9), some (.int p)], [.int 0], qS sw gc I J) (q_hn _ _ _ _) rfl ?_
      exact G_iret rfl rfl (by unfold x_la9; rw [decide_eq_false h1, decide_eq_true h2]; rfl) rfl
    · skip
      refine G_st (L := 89) (k := 2) (26, [some (.ref 9), some (.int p)], [.int 1], qS sw gc I J) (q_hn _ _ _ _) rfl ?_
      exact G_iret rfl rfl (by unfold x_la9; rw [decide_eq_false h1, decide_eq_false h2]; rfl) rfl
def x_num (sw : Bool) (I : Nat → Nat → Int32) (k : Nat) : Int32 := cond sw (I 10 k) (I 5 k)
def x_pnd (sw : Bool) (I : Nat → Nat → Int32) (g : Int32) (c : Nat) : Int32 := cond sw (x_pd9 I g c 0) (x_pd4 I g c 0)
def x_las (sw : Bool) (I : Nat → Nat → Int32) (p : Int32) : Bool := cond sw (x_la9 I p) (x_la4 I p)
def x_pds (sw : Bool) (I : Nat → Nat → Int32) : Int32 := cond sw (I 9 4) (I 4 4)
def x_tot (sw : Bool) (I : Nat → Nat → Int32) : Int32 := cond sw (I 9 5) (I 4 5)
end
section
theorem GM_r {d y : Nat} {av : List Value} {M M1 : qM} {r1 r2 : Int32} (h : GM d y av M (some (.int r1)) M1) (e : r1 = r2) : GM d y av M (some (.int r2)) M1 := e ▸ h
theorem q_cA {k : Nat} (h : k < 2 ^ 31) : ¬ lg_cmp (lN k) 0 < 0 := by
  rw [q_cmp_lt, show (0 : Int64) = lN 0 from rfl, lN_lt h (by decide)]; omega
theorem q_cB {k n : Nat} {x : Int32} (hx : x = nI n) (h : k < n) (hn : n < 2 ^ 31) : ¬ 0 ≤ lg_cmp (lN k) (Int32.toInt64 x) := by
  rw [q_cmp_ge, hx, nI_l hn, lN_le hn (by omega)]; omega
theorem q_cC {k : Nat} (h : k < 8) : lg_cmp (lN k) 8 < 0 := by
  rw [q_cmp_lt, show (8 : Int64) = lN 8 from rfl, lN_lt (by omega) (by decide)]; exact h
theorem q_cD {z : Int64} {n : Nat} {x : Int32} (hx : x = nI n) (hn : n < 2 ^ 31) (h : lN n ≤ z) : 0 ≤ lg_cmp z (Int32.toInt64 x) := by
  rw [q_cmp_ge, hx, nI_l hn]; exact h
theorem f_indexOf_ok {a b : Nat} (ha : a < 5) (hb : b < 6) : f_indexOf (nI a) (nI b) = nI (6 * a + b) := by
  unfold f_indexOf
  rw [if_neg (nI_pos (by omega)), if_neg (show ¬ (5 : Int32) ≤ nI a from nI_ge (b := 5) (by omega) (by decide)), if_neg (nI_pos (by omega)), if_pos (show nI b < (6 : Int32) from nI_lt (b := 6) (by omega) (by decide)), q_6]
theorem f_indexOf_bad {g c : Int32} (h : g < 0 ∨ nI 5 ≤ g ∨ c < 0 ∨ nI 6 ≤ c) : f_indexOf g c = -4 := by
  unfold f_indexOf
  split
  · rfl
  · split
    · rfl
    · split
      · rfl
      · rename_i h1 h2 h3
        rw [if_neg]
        rcases h with h | h | h | h
        · exact absurd h h1
        · exact absurd h h2
        · exact absurd h h3
        · exact fun z => by
            rw [q_le_int] at h; rw [q_lt_int] at z
            have e1 : (6 : Int32).toInt = 6 := rfl
            have e2 : (nI 6).toInt = 6 := rfl
            omega
theorem q_face (g c : Int32) : (∃ a b : Nat, a < 5 ∧ b < 6 ∧ g = nI a ∧ c = nI b) ∨ (g < 0 ∨ nI 5 ≤ g ∨ c < 0 ∨ nI 6 ≤ c) := by
  rcases q_ix g (n := 5) (by decide) with ⟨a, ha, rfl⟩ | h
  · rcases q_ix c (n := 6) (by decide) with ⟨b, hb, rfl⟩ | h
    · exact Or.inl ⟨a, b, ha, hb, rfl, rfl⟩
    · rcases h with h | h
      · exact Or.inr (Or.inr (Or.inr (Or.inl h)))
      · exact Or.inr (Or.inr (Or.inr (Or.inr h)))
  · rcases h with h | h
    · exact Or.inr (Or.inl h)
    · exact Or.inr (Or.inr (Or.inl h))
theorem f_isGoodness_01 (v : Int32) : f_isGoodness v = 1 ∨ f_isGoodness v = 0 := by
  unfold f_isGoodness
  split
  · exact Or.inr rfl
  · split
    · exact Or.inr rfl
    · exact Or.inl rfl
theorem x_gangAt {d : Nat} {sw : Bool} {gc : Nat} {I : Nat → Nat → Int32} {J : Nat → Nat → Int64} {k : Nat} (hgc : I 0 6 = nI gc) (hg : gc ≤ 8) (hk : k < gc) : GM d 91 [.ref 0, .long (lN k)] (qS sw gc I J) (some (.ref (2 * k + 89))) (qS sw gc I J) := by
  refine GM_of (by decide) (Nat.le_refl _) (Nat.le_of_ble_eq_true rfl) rfl ?_
  refine G_st (L := 89) (k := 0) (0, [some (.ref 0), some (.long (lN k)), none], [], qS sw gc I J) (q_hn _ _ _ _) rfl ?_
  refine G_st (L := 89) (k := 3) (3, [some (.ref 0), some (.long (lN k)), none], [.int (lg_cmp (lN k) 0)], qS sw gc I J) (q_hn _ _ _ _) rfl ?_
  refine G_if_lt 24 rfl rfl (fun h9 => absurd h9 (q_cA (by omega))) (fun _ => ?_)
  refine G_st (L := 89) (k := 5) (13, [some (.ref 0), some (.long (lN k)), none], [.int (lg_cmp (lN k) (Int32.toInt64 (I 0 6)))], qS sw gc I J) (q_hn _ _ _ _) rfl ?_
  refine G_if_ge 24 rfl rfl (fun h9 => absurd h9 (q_cB hgc hk (by omega))) (fun _ => ?_)
  refine G_st (L := 89) (k := 3) (21, [some (.ref 0), some (.long (lN k)), none], [.int (lg_cmp (lN k) 8)], qS sw gc I J) (q_hn _ _ _ _) rfl ?_
  refine G_if_lt 26 rfl rfl (fun _ => ?_) (fun h9 => absurd (q_cC (by omega)) h9)
  refine G_st (L := 89) (k := 4) (32, [some (.ref 0), some (.long (lN k)), none], [.int (Int64.toInt32 (lN k)), .ref 46], qS sw gc I J) (q_hn _ _ _ _) rfl ?_
  refine G_aald (i := 46) (n := 8) (t := 5) rfl rfl (by decide) (q_lt (by decide)) (by rw [q_li]; exact vp_in_nI (by omega) (by decide)) ?_
  rw [q_li, q_clamp (n := k) (by omega)]
  rw [show q_r (qS sw gc I J) 46 k = some (2 * k + 89) from @q_rfG sw gc k (by omega)]
  refine G_st (L := 89) (k := 0) (33, [some (.ref 0), some (.long (lN k)), none], [.ref (2 * k + 89)], qS sw gc I J) (q_hn _ _ _ _) rfl ?_
  exact G_aret rfl rfl rfl rfl
theorem x_gangAtN {d : Nat} {sw : Bool} {gc : Nat} {I : Nat → Nat → Int32} {J : Nat → Nat → Int64} {z : Int64} (hgc : I 0 6 = nI gc) (hg : gc ≤ 8) (hx : z < 0 ∨ lN gc ≤ z) : GM d 91 [.ref 0, .long z] (qS sw gc I J) (some (.null)) (qS sw gc I J) := by
  refine GM_of (by decide) (Nat.le_refl _) (Nat.le_of_ble_eq_true rfl) rfl ?_
  refine G_st (L := 89) (k := 0) (0, [some (.ref 0), some (.long z), none], [], qS sw gc I J) (q_hn _ _ _ _) rfl ?_
  refine G_st (L := 89) (k := 3) (3, [some (.ref 0), some (.long z), none], [.int (lg_cmp z 0)], qS sw gc I J) (q_hn _ _ _ _) rfl ?_
  refine G_if_lt 24 rfl rfl (fun h1 => ?_) (fun h1 => ?_)
  · skip
    refine G_st (L := 89) (k := 1) (25, [some (.ref 0), some (.long z), none], [.null], qS sw gc I J) (q_hn _ _ _ _) rfl ?_
    exact G_aret rfl rfl rfl rfl
  · skip
    refine G_st (L := 89) (k := 5) (13, [some (.ref 0), some (.long z), none], [.int (lg_cmp z (Int32.toInt64 (I 0 6)))], qS sw gc I J) (q_hn _ _ _ _) rfl ?_
    refine G_if_ge 24 rfl rfl (fun _ => ?_) (fun h9 => absurd (q_cD hgc (by omega) (hx.resolve_left (fun z => h1 ((q_cmp_lt _ _).mpr z)))) h9)
    refine G_st (L := 89) (k := 1) (25, [some (.ref 0), some (.long z), none], [.null], qS sw gc I J) (q_hn _ _ _ _) rfl ?_
    exact G_aret rfl rfl rfl rfl
theorem x_sheetAt {d : Nat} {sw : Bool} {gc : Nat} {I : Nat → Nat → Int32} {J : Nat → Nat → Int64} {k : Nat} (hk : k < 4) : GM d 92 [.ref 0, .int (nI k)] (qS sw gc I J) (some (.ref (2 * k + 54))) (qS sw gc I J) := by
  refine GM_of (by decide) (Nat.le_refl _) (Nat.le_of_ble_eq_true rfl) rfl ?_
  refine G_st (L := 89) (k := 0) (0, [some (.ref 0), some (.int (nI k))], [], qS sw gc I J) (q_hn _ _ _ _) rfl ?_
  refine G_st (L := 89) (k := 1) (1, [some (.ref 0), some (.int (nI k))], [.int (nI k)], qS sw gc I J) (q_hn _ _ _ _) rfl ?_
  refine G_if_lt 9 rfl rfl (fun h9 => absurd h9 (nI_nlt (b := 0) (by omega) (by omega))) (fun _ => ?_)
  refine G_st (L := 89) (k := 2) (6, [some (.ref 0), some (.int (nI k))], [.int 4, .int (nI k)], qS sw gc I J) (q_hn _ _ _ _) rfl ?_
  refine G_icmp_lt 13 rfl rfl (fun _ => ?_) (fun h9 => absurd (nI_lt (b := 4) (by omega) (by decide)) h9)
  refine G_st (L := 89) (k := 3) (18, [some (.ref 0), some (.int (nI k))], [.int (nI k), .ref 53], qS sw gc I J) (q_hn _ _ _ _) rfl ?_
  refine G_aald (i := 53) (n := 4) (t := 6) rfl rfl (by decide) (q_lt (by decide)) (vp_in_nI (by omega) (by decide)) ?_
  rw [q_clamp (n := k) (by omega)]
  rw [show q_r (qS sw gc I J) 53 k = some (2 * k + 54) from (@q_rfS sw gc k (by omega)).1]
  refine G_st (L := 89) (k := 0) (19, [some (.ref 0), some (.int (nI k))], [.ref (2 * k + 54)], qS sw gc I J) (q_hn _ _ _ _) rfl ?_
  exact G_aret rfl rfl rfl rfl
theorem q_bad4 {x : Int32} (hx : x < 0 ∨ nI 4 ≤ x) (h : ¬ x < 0) : ¬ x < 4 ∧ 4 ≤ x := by
  rcases hx with h2 | h2
  · exact absurd h2 h
  · exact ⟨fun z => by rw [q_le_int] at h2; rw [q_lt_int] at z; have e1 : (4 : Int32).toInt = 4 := rfl; have e2 : (nI 4).toInt = 4 := rfl; omega, h2⟩
theorem x_sheetAtN {d : Nat} {sw : Bool} {gc : Nat} {I : Nat → Nat → Int32} {J : Nat → Nat → Int64} {x : Int32} (hx : x < 0 ∨ nI 4 ≤ x) : GM d 92 [.ref 0, .int x] (qS sw gc I J) (some (.null)) (qS sw gc I J) := by
  refine GM_of (by decide) (Nat.le_refl _) (Nat.le_of_ble_eq_true rfl) rfl ?_
  refine G_st (L := 89) (k := 0) (0, [some (.ref 0), some (.int x)], [], qS sw gc I J) (q_hn _ _ _ _) rfl ?_
  refine G_st (L := 89) (k := 1) (1, [some (.ref 0), some (.int x)], [.int x], qS sw gc I J) (q_hn _ _ _ _) rfl ?_
  refine G_if_lt 9 rfl rfl (fun h1 => ?_) (fun h1 => ?_)
  · skip
    refine G_st (L := 89) (k := 2) (19, [some (.ref 0), some (.int x)], [.null], qS sw gc I J) (q_hn _ _ _ _) rfl ?_
    exact G_aret rfl rfl rfl rfl
  · skip
    refine G_st (L := 89) (k := 2) (6, [some (.ref 0), some (.int x)], [.int 4, .int x], qS sw gc I J) (q_hn _ _ _ _) rfl ?_
    refine G_icmp_lt 13 rfl rfl (fun h9 => absurd h9 (q_bad4 hx h1).1) (fun _ => ?_)
    refine G_st (L := 89) (k := 2) (19, [some (.ref 0), some (.int x)], [.null], qS sw gc I J) (q_hn _ _ _ _) rfl ?_
    exact G_aret rfl rfl rfl rfl
theorem x_ix_ok {d : Nat} {M : qM} {a b : Nat} (ha : a < 5) (hb : b < 6) : GM d 2 [.int (nI a), .int (nI b)] M (some (.int (nI (6 * a + b)))) M := f_indexOf_ok ha hb ▸ m_indexOf (nI a) (nI b)
theorem x_ix_bad {d : Nat} {M : qM} {g c : Int32} (h : g < 0 ∨ nI 5 ≤ g ∨ c < 0 ∨ nI 6 ≤ c) : GM d 2 [.int g, .int c] M (some (.int (-4))) M := f_indexOf_bad h ▸ m_indexOf g c
theorem x_rock {d : Nat} {sw : Bool} {gc : Nat} {I : Nat → Nat → Int32} {J : Nat → Nat → Int64} {a b : Nat} (ha : a < 5) (hb : b < 6) {v : Int32} (hv : f_isGoodness v = 1) : GM (d + 1) 73 [.ref 0, .int (nI a), .int (nI b), .int v] (qS sw gc I J) (some (.int (I (6 * a + b + 16) 0))) (qS sw gc (q_u I (6 * a + b + 16) 0 v) J) := by
  refine GM_of (by decide) (Nat.le_refl _) (Nat.le_of_ble_eq_true rfl) trivial ?_
  refine G_st (L := 89) (k := 0) (0, [some (.ref 0), some (.int (nI a)), some (.int (nI b)), some (.int v), none, none], [], qS sw gc I J) (q_hn _ _ _ _) rfl ?_
  refine G_st (L := 89) (k := 4) (6, [some (.ref 0), some (.int (nI a)), some (.int (nI b)), some (.int v), none, none], [.int (nI b), .int (nI a), .ref 14], qS sw gc I J) (q_hn _ _ _ _) rfl ?_
  refine G_callS (as := [.int (nI a), .int (nI b)]) (rest := [.ref 14]) rfl rfl rfl (Nat.le_of_ble_eq_true rfl) (x_ix_ok ha hb) (Nat.le_refl _) ?_
  refine G_st (L := 89) (k := 0) (9, [some (.ref 0), some (.int (nI a)), some (.int (nI b)), some (.int v), none, none], [.int (nI (6 * a + b)), .ref 14], qS sw gc I J) (q_hn _ _ _ _) rfl ?_
  refine G_callV (b := 14) (ci := 0) (as := [.int (nI (6 * a + b))]) (rest := []) rfl rfl rfl (q_lt (by decide)) (by decide) rfl rfl (Nat.le_of_ble_eq_true rfl) (x_wallAt (by omega)) (Nat.le_refl _) ?_
  refine G_st (L := 89) (k := 4) (20, [some (.ref 0), some (.int (nI a)), some (.int (nI b)), some (.int v), some (.ref (6 * a + b + 16)), none], [.int v], qS sw gc I J) (q_hn _ _ _ _) rfl ?_
  refine G_callS (as := [.int v]) (rest := []) rfl rfl rfl (Nat.le_of_ble_eq_true rfl) (GM_r (m_isGoodness v) hv) (Nat.le_refl _) ?_
  refine G_st (L := 89) (k := 0) (23, [some (.ref 0), some (.int (nI a)), some (.int (nI b)), some (.int v), some (.ref (6 * a + b + 16)), none], [.int 1], qS sw gc I J) (q_hn _ _ _ _) rfl ?_
  refine G_if_ne 28 rfl rfl (fun _ => ?_) (fun h9 => absurd h9 (by decide))
  refine G_st (L := 89) (k := 1) (30, [some (.ref 0), some (.int (nI a)), some (.int (nI b)), some (.int v), some (.ref (6 * a + b + 16)), none], [.ref (6 * a + b + 16)], qS sw gc I J) (q_hn _ _ _ _) rfl ?_
  refine G_get (ci := 7) (k := 0) (i := 6 * a + b + 16) rfl rfl (q_shW (by omega)) (q_ltW (by omega)) ?_
  refine G_st (L := 89) (k := 3) (38, [some (.ref 0), some (.int (nI a)), some (.int (nI b)), some (.int v), some (.ref (6 * a + b + 16)), some (.int (I (6 * a + b + 16) 0))], [.int v, .ref (6 * a + b + 16)], qS sw gc I J) (q_hn _ _ _ _) rfl ?_
  refine G_put (ci := 7) (k := 0) (i := 6 * a + b + 16) (M1 := qS sw gc (q_u I (6 * a + b + 16) 0 v) J) rfl rfl (q_shW (by omega)) (q_ltW (by omega)) rfl rfl rfl ?_
  refine G_st (L := 89) (k := 1) (43, [some (.ref 0), some (.int (nI a)), some (.int (nI b)), some (.int v), some (.ref (6 * a + b + 16)), some (.int (I (6 * a + b + 16) 0))], [.int (I (6 * a + b + 16) 0)], qS sw gc (q_u I (6 * a + b + 16) 0 v) J) (q_hn _ _ _ _) rfl ?_
  exact G_iret rfl rfl rfl rfl
theorem x_rockV {d : Nat} {sw : Bool} {gc : Nat} {I : Nat → Nat → Int32} {J : Nat → Nat → Int64} {a b : Nat} (ha : a < 5) (hb : b < 6) {v : Int32} (hv : f_isGoodness v = 0) : GM (d + 1) 73 [.ref 0, .int (nI a), .int (nI b), .int v] (qS sw gc I J) (some (.int (-1))) (qS sw gc I J) := by
  refine GM_of (by decide) (Nat.le_refl _) (Nat.le_of_ble_eq_true rfl) trivial ?_
  refine G_st (L := 89) (k := 0) (0, [some (.ref 0), some (.int (nI a)), some (.int (nI b)), some (.int v), none, none], [], qS sw gc I J) (q_hn _ _ _ _) rfl ?_
  refine G_st (L := 89) (k := 4) (6, [some (.ref 0), some (.int (nI a)), some (.int (nI b)), some (.int v), none, none], [.int (nI b), .int (nI a), .ref 14], qS sw gc I J) (q_hn _ _ _ _) rfl ?_
  refine G_callS (as := [.int (nI a), .int (nI b)]) (rest := [.ref 14]) rfl rfl rfl (Nat.le_of_ble_eq_true rfl) (x_ix_ok ha hb) (Nat.le_refl _) ?_
  refine G_st (L := 89) (k := 0) (9, [some (.ref 0), some (.int (nI a)), some (.int (nI b)), some (.int v), none, none], [.int (nI (6 * a + b)), .ref 14], qS sw gc I J) (q_hn _ _ _ _) rfl ?_
  refine G_callV (b := 14) (ci := 0) (as := [.int (nI (6 * a + b))]) (rest := []) rfl rfl rfl (q_lt (by decide)) (by decide) rfl rfl (Nat.le_of_ble_eq_true rfl) (x_wallAt (by omega)) (Nat.le_refl _) ?_
  refine G_st (L := 89) (k := 4) (20, [some (.ref 0), some (.int (nI a)), some (.int (nI b)), some (.int v), some (.ref (6 * a + b + 16)), none], [.int v], qS sw gc I J) (q_hn _ _ _ _) rfl ?_
  refine G_callS (as := [.int v]) (rest := []) rfl rfl rfl (Nat.le_of_ble_eq_true rfl) (GM_r (m_isGoodness v) hv) (Nat.le_refl _) ?_
  refine G_st (L := 89) (k := 0) (23, [some (.ref 0), some (.int (nI a)), some (.int (nI b)), some (.int v), some (.ref (6 * a + b + 16)), none], [.int 0], qS sw gc I J) (q_hn _ _ _ _) rfl ?_
  refine G_if_ne 28 rfl rfl (fun h9 => absurd h9 (by decide)) (fun _ => ?_)
  refine G_st (L := 89) (k := 1) (27, [some (.ref 0), some (.int (nI a)), some (.int (nI b)), some (.int v), some (.ref (6 * a + b + 16)), none], [.int (-1)], qS sw gc I J) (q_hn _ _ _ _) rfl ?_
  exact G_iret rfl rfl rfl rfl
theorem x_rockF {d : Nat} {sw : Bool} {gc : Nat} {I : Nat → Nat → Int32} {J : Nat → Nat → Int64} {g c : Int32} (hbad : g < 0 ∨ nI 5 ≤ g ∨ c < 0 ∨ nI 6 ≤ c) {v : Int32} : GM (d + 1) 73 [.ref 0, .int g, .int c, .int v] (qS sw gc I J) (some (.int (-1))) (qS sw gc I J) := by
  refine GM_of (by decide) (Nat.le_refl _) (Nat.le_of_ble_eq_true rfl) trivial ?_
  refine G_st (L := 89) (k := 0) (0, [some (.ref 0), some (.int g), some (.int c), some (.int v), none, none], [], qS sw gc I J) (q_hn _ _ _ _) rfl ?_
  refine G_st (L := 89) (k := 4) (6, [some (.ref 0), some (.int g), some (.int c), some (.int v), none, none], [.int c, .int g, .ref 14], qS sw gc I J) (q_hn _ _ _ _) rfl ?_
  refine G_callS (as := [.int g, .int c]) (rest := [.ref 14]) rfl rfl rfl (Nat.le_of_ble_eq_true rfl) (x_ix_bad hbad) (Nat.le_refl _) ?_
  refine G_st (L := 89) (k := 0) (9, [some (.ref 0), some (.int g), some (.int c), some (.int v), none, none], [.int (-4), .ref 14], qS sw gc I J) (q_hn _ _ _ _) rfl ?_
  refine G_callV (b := 14) (ci := 0) (as := [.int (-4)]) (rest := []) rfl rfl rfl (q_lt (by decide)) (by decide) rfl rfl (Nat.le_of_ble_eq_true rfl) (x_wallAtN (Or.inl (by decide))) (Nat.le_refl _) ?_
  refine G_st (L := 89) (k := 4) (27, [some (.ref 0), some (.int g), some (.int c), some (.int v), some (.null), none], [.int (-1)], qS sw gc I J) (q_hn _ _ _ _) rfl ?_
  exact G_iret rfl rfl rfl rfl
theorem q_out4 {x : Int32} (h0 : ¬ x = 0) (h1 : ¬ x = 1) (h2 : ¬ x = 2) (h3 : ¬ x = 3) : x.toInt < 0 ∨ 3 < x.toInt := by
  have e0 : (0 : Int32).toInt = 0 := rfl
  have e1 : (1 : Int32).toInt = 1 := rfl
  have e2 : (2 : Int32).toInt = 2 := rfl
  have e3 : (3 : Int32).toInt = 3 := rfl
  rw [q_eq_int, e0] at h0
  rw [q_eq_int, e1] at h1
  rw [q_eq_int, e2] at h2
  rw [q_eq_int, e3] at h3
  omega
theorem q_out5 {x : Int32} (h0 : ¬ x = 0) (h1 : ¬ x = 1) (h2 : ¬ x = 2) (h3 : ¬ x = 3) (h4 : ¬ x = 4) : x.toInt < 0 ∨ 4 < x.toInt := by
  have e0 : (0 : Int32).toInt = 0 := rfl
  have e1 : (1 : Int32).toInt = 1 := rfl
  have e2 : (2 : Int32).toInt = 2 := rfl
  have e3 : (3 : Int32).toInt = 3 := rfl
  have e4 : (4 : Int32).toInt = 4 := rfl
  rw [q_eq_int, e0] at h0
  rw [q_eq_int, e1] at h1
  rw [q_eq_int, e2] at h2
  rw [q_eq_int, e3] at h3
  rw [q_eq_int, e4] at h4
  omega
theorem q_out6 {x : Int32} (h0 : ¬ x = 0) (h1 : ¬ x = 1) (h2 : ¬ x = 2) (h3 : ¬ x = 3) (h4 : ¬ x = 4) (h5 : ¬ x = 5) : x.toInt < 0 ∨ 5 < x.toInt := by
  have e0 : (0 : Int32).toInt = 0 := rfl
  have e1 : (1 : Int32).toInt = 1 := rfl
  have e2 : (2 : Int32).toInt = 2 := rfl
  have e3 : (3 : Int32).toInt = 3 := rfl
  have e4 : (4 : Int32).toInt = 4 := rfl
  have e5 : (5 : Int32).toInt = 5 := rfl
  rw [q_eq_int, e0] at h0
  rw [q_eq_int, e1] at h1
  rw [q_eq_int, e2] at h2
  rw [q_eq_int, e3] at h3
  rw [q_eq_int, e4] at h4
  rw [q_eq_int, e5] at h5
  omega
theorem q_out10 {x : Int32} (h0 : ¬ x = 0) (h1 : ¬ x = 1) (h2 : ¬ x = 2) (h3 : ¬ x = 3) (h4 : ¬ x = 4) (h5 : ¬ x = 5) (h6 : ¬ x = 6) (h7 : ¬ x = 7) (h8 : ¬ x = 8) (h9 : ¬ x = 9) : x.toInt < 0 ∨ 9 < x.toInt := by
  have e0 : (0 : Int32).toInt = 0 := rfl
  have e1 : (1 : Int32).toInt = 1 := rfl
  have e2 : (2 : Int32).toInt = 2 := rfl
  have e3 : (3 : Int32).toInt = 3 := rfl
  have e4 : (4 : Int32).toInt = 4 := rfl
  have e5 : (5 : Int32).toInt = 5 := rfl
  have e6 : (6 : Int32).toInt = 6 := rfl
  have e7 : (7 : Int32).toInt = 7 := rfl
  have e8 : (8 : Int32).toInt = 8 := rfl
  have e9 : (9 : Int32).toInt = 9 := rfl
  rw [q_eq_int, e0] at h0
  rw [q_eq_int, e1] at h1
  rw [q_eq_int, e2] at h2
  rw [q_eq_int, e3] at h3
  rw [q_eq_int, e4] at h4
  rw [q_eq_int, e5] at h5
  rw [q_eq_int, e6] at h6
  rw [q_eq_int, e7] at h7
  rw [q_eq_int, e8] at h8
  rw [q_eq_int, e9] at h9
  omega
def x_fc (I : Nat → Nat → Int32) (w : Nat) (q : Int32) : Int32 := if q = 0 then I (w + 16) 0 else if q = 1 then I (w + 16) 1 else if q = 2 then q_b (x_lo I w) else if q = 3 then q_b (x_may I w) else if q = 4 then I (w + 16) 3 else -1
theorem x_face {d : Nat} {sw : Bool} {gc : Nat} {I : Nat → Nat → Int32} {J : Nat → Nat → Int64} {a b : Nat} (ha : a < 5) (hb : b < 6) {q : Int32} : GM (d + 3) 74 [.ref 0, .int (nI a), .int (nI b), .int q] (qS sw gc I J) (some (.int (x_fc I (6 * a + b) q))) (qS sw gc I J) := by
  refine GM_of (by decide) (Nat.le_refl _) (Nat.le_of_ble_eq_true rfl) trivial ?_
  refine G_st (L := 89) (k := 0) (0, [some (.ref 0), some (.int (nI a)), some (.int (nI b)), some (.int q), none, none], [], qS sw gc I J) (q_hn _ _ _ _) rfl ?_
  refine G_st (L := 89) (k := 2) (2, [some (.ref 0), some (.int (nI a)), some (.int (nI b)), some (.int q), none, none], [.int (nI b), .int (nI a)], qS sw gc I J) (q_hn _ _ _ _) rfl ?_
  refine G_callS (as := [.int (nI a), .int (nI b)]) (rest := []) rfl rfl rfl (Nat.le_of_ble_eq_true rfl) (x_ix_ok ha hb) (Nat.le_refl _) ?_
  refine G_st (L := 89) (k := 4) (13, [some (.ref 0), some (.int (nI a)), some (.int (nI b)), some (.int q), some (.int (nI (6 * a + b))), none], [.int (nI (6 * a + b)), .ref 14], qS sw gc I J) (q_hn _ _ _ _) rfl ?_
  refine G_callV (b := 14) (ci := 0) (as := [.int (nI (6 * a + b))]) (rest := []) rfl rfl rfl (q_lt (by decide)) (by decide) rfl rfl (Nat.le_of_ble_eq_true rfl) (x_wallAt (by omega)) (Nat.le_refl _) ?_
  refine G_st (L := 89) (k := 4) (26, [some (.ref 0), some (.int (nI a)), some (.int (nI b)), some (.int q), some (.int (nI (6 * a + b))), some (.ref (6 * a + b + 16))], [.int q], qS sw gc I J) (q_hn _ _ _ _) rfl ?_
  by_cases hs0 : q = 0
  · refine G_tsIn 60 rfl (off := 34) (by rw [hs0]; decide) (by rw [hs0]; decide) (by rw [hs0]; rfl) rfl ?_
    refine G_st (L := 89) (k := 1) (62, [some (.ref 0), some (.int (nI a)), some (.int (nI b)), some (.int q), some (.int (nI (6 * a + b))), some (.ref (6 * a + b + 16))], [.ref (6 * a + b + 16)], qS sw gc I J) (q_hn _ _ _ _) rfl ?_
    refine G_get (ci := 7) (k := 0) (i := 6 * a + b + 16) rfl rfl (q_shW (by omega)) (q_ltW (by omega)) ?_
    refine G_st (L := 89) (k := 0) (65, [some (.ref 0), some (.int (nI a)), some (.int (nI b)), some (.int q), some (.int (nI (6 * a + b))), some (.ref (6 * a + b + 16))], [.int (I (6 * a + b + 16) 0)], qS sw gc I J) (q_hn _ _ _ _) rfl ?_
    exact G_iret rfl rfl (by rw [x_fc, if_pos hs0]) rfl
  by_cases hs1 : q = 1
  · refine G_tsIn 66 rfl (off := 40) (by rw [hs1]; decide) (by rw [hs1]; decide) (by rw [hs1]; rfl) rfl ?_
    refine G_st (L := 89) (k := 1) (68, [some (.ref 0), some (.int (nI a)), some (.int (nI b)), some (.int q), some (.int (nI (6 * a + b))), some (.ref (6 * a + b + 16))], [.ref (6 * a + b + 16)], qS sw gc I J) (q_hn _ _ _ _) rfl ?_
    refine G_get (ci := 7) (k := 1) (i := 6 * a + b + 16) rfl rfl (q_shW (by omega)) (q_ltW (by omega)) ?_
    refine G_st (L := 89) (k := 0) (71, [some (.ref 0), some (.int (nI a)), some (.int (nI b)), some (.int q), some (.int (nI (6 * a + b))), some (.ref (6 * a + b + 16))], [.int (I (6 * a + b + 16) 1)], qS sw gc I J) (q_hn _ _ _ _) rfl ?_
    exact G_iret rfl rfl (by rw [x_fc, if_neg hs0, if_pos hs1]) rfl
  by_cases hs2 : q = 2
  · refine G_tsIn 72 rfl (off := 46) (by rw [hs2]; decide) (by rw [hs2]; decide) (by rw [hs2]; rfl) rfl ?_
    refine G_st (L := 89) (k := 1) (74, [some (.ref 0), some (.int (nI a)), some (.int (nI b)), some (.int q), some (.int (nI (6 * a + b))), some (.ref (6 * a + b + 16))], [.ref (6 * a + b + 16)], qS sw gc I J) (q_hn _ _ _ _) rfl ?_
    refine G_get (ci := 7) (k := 2) (i := 6 * a + b + 16) rfl rfl (q_shW (by omega)) (q_ltW (by omega)) ?_
    refine G_st (L := 89) (k := 0) (77, [some (.ref 0), some (.int (nI a)), some (.int (nI b)), some (.int q), some (.int (nI (6 * a + b))), some (.ref (6 * a + b + 16))], [.int (I (6 * a + b + 16) 2)], qS sw gc I J) (q_hn _ _ _ _) rfl ?_
    refine G_if_eq 84 rfl rfl (fun h1 => ?_) (fun h1 => ?_)
    · skip
      refine G_st (L := 89) (k := 1) (85, [some (.ref 0), some (.int (nI a)), some (.int (nI b)), some (.int q), some (.int (nI (6 * a + b))), some (.ref (6 * a + b + 16))], [.int 0], qS sw gc I J) (q_hn _ _ _ _) rfl ?_
      exact G_iret rfl rfl (by rw [x_fc, if_neg hs0, if_neg hs1, if_pos hs2, x_lo, decide_eq_true h1]; rfl) rfl
    · skip
      refine G_st (L := 89) (k := 2) (85, [some (.ref 0), some (.int (nI a)), some (.int (nI b)), some (.int q), some (.int (nI (6 * a + b))), some (.ref (6 * a + b + 16))], [.int 1], qS sw gc I J) (q_hn _ _ _ _) rfl ?_
      exact G_iret rfl rfl (by rw [x_fc, if_neg hs0, if_neg hs1, if_pos hs2, x_lo, decide_eq_false h1]; rfl) rfl
  by_cases hs3 : q = 3
  · refine G_tsIn 86 rfl (off := 60) (by rw [hs3]; decide) (by rw [hs3]; decide) (by rw [hs3]; rfl) rfl ?_
    refine G_st (L := 89) (k := 3) (92, [some (.ref 0), some (.int (nI a)), some (.int (nI b)), some (.int q), some (.int (nI (6 * a + b))), some (.ref (6 * a + b + 16))], [.int (nI (6 * a + b)), .ref 14], qS sw gc I J) (q_hn _ _ _ _) rfl ?_
    refine G_callV (b := 14) (ci := 0) (as := [.int (nI (6 * a + b))]) (rest := []) rfl rfl rfl (q_lt (by decide)) (by decide) rfl rfl (Nat.le_of_ble_eq_true rfl) (x_mayBeWorked (by omega)) (Nat.le_refl _) ?_
    refine G_st (L := 89) (k := 0) (95, [some (.ref 0), some (.int (nI a)), some (.int (nI b)), some (.int q), some (.int (nI (6 * a + b))), some (.ref (6 * a + b + 16))], [.int (q_b (x_may I (6 * a + b)))], qS sw gc I J) (q_hn _ _ _ _) rfl ?_
    refine G_if_eq 102 rfl rfl (fun h2 => ?_) (fun h2 => ?_)
    · skip
      refine G_st (L := 89) (k := 1) (103, [some (.ref 0), some (.int (nI a)), some (.int (nI b)), some (.int q), some (.int (nI (6 * a + b))), some (.ref (6 * a + b + 16))], [.int 0], qS sw gc I J) (q_hn _ _ _ _) rfl ?_
      exact G_iret rfl rfl (by rw [x_fc, if_neg hs0, if_neg hs1, if_neg hs2, if_pos hs3, q_b0.mp h2]; rfl) rfl
    · skip
      refine G_st (L := 89) (k := 2) (103, [some (.ref 0), some (.int (nI a)), some (.int (nI b)), some (.int q), some (.int (nI (6 * a + b))), some (.ref (6 * a + b + 16))], [.int 1], qS sw gc I J) (q_hn _ _ _ _) rfl ?_
      exact G_iret rfl rfl (by rw [x_fc, if_neg hs0, if_neg hs1, if_neg hs2, if_pos hs3, q_b1 h2]; rfl) rfl
  by_cases hs4 : q = 4
  · refine G_tsIn 104 rfl (off := 78) (by rw [hs4]; decide) (by rw [hs4]; decide) (by rw [hs4]; rfl) rfl ?_
    refine G_st (L := 89) (k := 1) (106, [some (.ref 0), some (.int (nI a)), some (.int (nI b)), some (.int q), some (.int (nI (6 * a + b))), some (.ref (6 * a + b + 16))], [.ref (6 * a + b + 16)], qS sw gc I J) (q_hn _ _ _ _) rfl ?_
    refine G_get (ci := 7) (k := 3) (i := 6 * a + b + 16) rfl rfl (q_shW (by omega)) (q_ltW (by omega)) ?_
    refine G_st (L := 89) (k := 0) (109, [some (.ref 0), some (.int (nI a)), some (.int (nI b)), some (.int q), some (.int (nI (6 * a + b))), some (.ref (6 * a + b + 16))], [.int (I (6 * a + b + 16) 3)], qS sw gc I J) (q_hn _ _ _ _) rfl ?_
    exact G_iret rfl rfl (by rw [x_fc, if_neg hs0, if_neg hs1, if_neg hs2, if_neg hs3, if_pos hs4]) rfl
  refine G_tsOut 110 rfl (q_out5 hs0 hs1 hs2 hs3 hs4) rfl ?_
  refine G_st (L := 89) (k := 1) (111, [some (.ref 0), some (.int (nI a)), some (.int (nI b)), some (.int q), some (.int (nI (6 * a + b))), some (.ref (6 * a + b + 16))], [.int (-1)], qS sw gc I J) (q_hn _ _ _ _) rfl ?_
  exact G_iret rfl rfl (by rw [x_fc, if_neg hs0, if_neg hs1, if_neg hs2, if_neg hs3, if_neg hs4]) rfl
theorem x_faceF {d : Nat} {sw : Bool} {gc : Nat} {I : Nat → Nat → Int32} {J : Nat → Nat → Int64} {g c : Int32} (hbad : g < 0 ∨ nI 5 ≤ g ∨ c < 0 ∨ nI 6 ≤ c) {q : Int32} : GM (d + 3) 74 [.ref 0, .int g, .int c, .int q] (qS sw gc I J) (some (.int (-1))) (qS sw gc I J) := by
  refine GM_of (by decide) (Nat.le_refl _) (Nat.le_of_ble_eq_true rfl) trivial ?_
  refine G_st (L := 89) (k := 0) (0, [some (.ref 0), some (.int g), some (.int c), some (.int q), none, none], [], qS sw gc I J) (q_hn _ _ _ _) rfl ?_
  refine G_st (L := 89) (k := 2) (2, [some (.ref 0), some (.int g), some (.int c), some (.int q), none, none], [.int c, .int g], qS sw gc I J) (q_hn _ _ _ _) rfl ?_
  refine G_callS (as := [.int g, .int c]) (rest := []) rfl rfl rfl (Nat.le_of_ble_eq_true rfl) (x_ix_bad hbad) (Nat.le_refl _) ?_
  refine G_st (L := 89) (k := 4) (13, [some (.ref 0), some (.int g), some (.int c), some (.int q), some (.int (-4)), none], [.int (-4), .ref 14], qS sw gc I J) (q_hn _ _ _ _) rfl ?_
  refine G_callV (b := 14) (ci := 0) (as := [.int (-4)]) (rest := []) rfl rfl rfl (q_lt (by decide)) (by decide) rfl rfl (Nat.le_of_ble_eq_true rfl) (x_wallAtN (Or.inl (by decide))) (Nat.le_refl _) ?_
  refine G_st (L := 89) (k := 4) (24, [some (.ref 0), some (.int g), some (.int c), some (.int q), some (.int (-4)), some (.null)], [.int (-1)], qS sw gc I J) (q_hn _ _ _ _) rfl ?_
  exact G_iret rfl rfl rfl rfl
theorem x_clear {d : Nat} {sw : Bool} {gc : Nat} {I : Nat → Nat → Int32} {J : Nat → Nat → Int64} {a b : Nat} (ha : a < 5) (hb : b < 6) {k : Nat} (hgc : I 0 6 = nI gc) (hg : gc ≤ 8) (hk : k < gc) (hlo : ¬ I (6 * a + b + 16) 2 = 0) : GM (d + 1) 75 [.ref 0, .int (nI a), .int (nI b), .int (nI k)] (qS sw gc I J) (some (.int 1)) (qS sw gc (q_u (q_u I (6 * a + b + 16) 2 0) (2 * k + 89) 2 ((I (2 * k + 89) 2) + (20 * (I (2 * k + 89) 1)))) J) := by
  refine GM_of (by decide) (Nat.le_refl _) (Nat.le_of_ble_eq_true rfl) trivial ?_
  refine G_st (L := 89) (k := 0) (0, [some (.ref 0), some (.int (nI a)), some (.int (nI b)), some (.int (nI k)), none, none], [], qS sw gc I J) (q_hn _ _ _ _) rfl ?_
  refine G_st (L := 89) (k := 4) (6, [some (.ref 0), some (.int (nI a)), some (.int (nI b)), some (.int (nI k)), none, none], [.int (nI b), .int (nI a), .ref 14], qS sw gc I J) (q_hn _ _ _ _) rfl ?_
  refine G_callS (as := [.int (nI a), .int (nI b)]) (rest := [.ref 14]) rfl rfl rfl (Nat.le_of_ble_eq_true rfl) (x_ix_ok ha hb) (Nat.le_refl _) ?_
  refine G_st (L := 89) (k := 0) (9, [some (.ref 0), some (.int (nI a)), some (.int (nI b)), some (.int (nI k)), none, none], [.int (nI (6 * a + b)), .ref 14], qS sw gc I J) (q_hn _ _ _ _) rfl ?_
  refine G_callV (b := 14) (ci := 0) (as := [.int (nI (6 * a + b))]) (rest := []) rfl rfl rfl (q_lt (by decide)) (by decide) rfl rfl (Nat.le_of_ble_eq_true rfl) (x_wallAt (by omega)) (Nat.le_refl _) ?_
  refine G_st (L := 89) (k := 4) (17, [some (.ref 0), some (.int (nI a)), some (.int (nI b)), some (.int (nI k)), some (.ref (6 * a + b + 16)), none], [.long (Int32.toInt64 (nI k)), .ref 0], qS sw gc I J) (q_hn _ _ _ _) rfl ?_
  rw [show Int32.toInt64 (nI k) = lN k from (q_i2lP rfl (by omega))]
  refine G_callV (b := 0) (ci := 8) (as := [.long (lN k)]) (rest := []) rfl rfl rfl (q_lt (by decide)) (by decide) rfl rfl (Nat.le_of_ble_eq_true rfl) (x_gangAt hgc hg hk) (Nat.le_refl _) ?_
  refine G_st (L := 89) (k := 6) (36, [some (.ref 0), some (.int (nI a)), some (.int (nI b)), some (.int (nI k)), some (.ref (6 * a + b + 16)), some (.ref (2 * k + 89))], [.ref (6 * a + b + 16)], qS sw gc I J) (q_hn _ _ _ _) rfl ?_
  refine G_get (ci := 7) (k := 2) (i := 6 * a + b + 16) rfl rfl (q_shW (by omega)) (q_ltW (by omega)) ?_
  refine G_st (L := 89) (k := 0) (39, [some (.ref 0), some (.int (nI a)), some (.int (nI b)), some (.int (nI k)), some (.ref (6 * a + b + 16)), some (.ref (2 * k + 89))], [.int (I (6 * a + b + 16) 2)], qS sw gc I J) (q_hn _ _ _ _) rfl ?_
  refine G_if_ne 45 rfl rfl (fun _ => ?_) (fun h9 => absurd h9 hlo)
  refine G_st (L := 89) (k := 2) (48, [some (.ref 0), some (.int (nI a)), some (.int (nI b)), some (.int (nI k)), some (.ref (6 * a + b + 16)), some (.ref (2 * k + 89))], [.int 0, .ref (6 * a + b + 16)], qS sw gc I J) (q_hn _ _ _ _) rfl ?_
  refine G_put (ci := 7) (k := 2) (i := 6 * a + b + 16) (M1 := qS sw gc (q_u I (6 * a + b + 16) 2 0) J) rfl rfl (q_shW (by omega)) (q_ltW (by omega)) rfl rfl rfl ?_
  refine G_st (L := 89) (k := 2) (54, [some (.ref 0), some (.int (nI a)), some (.int (nI b)), some (.int (nI k)), some (.ref (6 * a + b + 16)), some (.ref (2 * k + 89))], [.ref (2 * k + 89), .ref (2 * k + 89)], qS sw gc (q_u I (6 * a + b + 16) 2 0) J) (q_hn _ _ _ _) rfl ?_
  refine G_get (ci := 1) (k := 2) (i := 2 * k + 89) rfl rfl (q_shG (by omega)).1 (q_ltG (by omega)).1 ?_
  rw [show q_av (qS sw gc (q_u I (6 * a + b + 16) 2 0) J) (2 * k + 89) (q_fty 1 2) 2 = .int (I (2 * k + 89) 2) from congrArg Value.int (show (q_u I (6 * a + b + 16) 2 0) (2 * k + 89) 2 = I (2 * k + 89) 2 from q_un _ _ (by omega))]
  refine G_st (L := 89) (k := 2) (61, [some (.ref 0), some (.int (nI a)), some (.int (nI b)), some (.int (nI k)), some (.ref (6 * a + b + 16)), some (.ref (2 * k + 89))], [.ref (2 * k + 89), .int 20, .int (I (2 * k + 89) 2), .ref (2 * k + 89)], qS sw gc (q_u I (6 * a + b + 16) 2 0) J) (q_hn _ _ _ _) rfl ?_
  refine G_get (ci := 1) (k := 1) (i := 2 * k + 89) rfl rfl (q_shG (by omega)).1 (q_ltG (by omega)).1 ?_
  rw [show q_av (qS sw gc (q_u I (6 * a + b + 16) 2 0) J) (2 * k + 89) (q_fty 1 1) 1 = .int (I (2 * k + 89) 1) from congrArg Value.int (show (q_u I (6 * a + b + 16) 2 0) (2 * k + 89) 1 = I (2 * k + 89) 1 from q_un _ _ (by omega))]
  refine G_st (L := 89) (k := 2) (66, [some (.ref 0), some (.int (nI a)), some (.int (nI b)), some (.int (nI k)), some (.ref (6 * a + b + 16)), some (.ref (2 * k + 89))], [.int ((I (2 * k + 89) 2) + (20 * (I (2 * k + 89) 1))), .ref (2 * k + 89)], qS sw gc (q_u I (6 * a + b + 16) 2 0) J) (q_hn _ _ _ _) rfl ?_
  refine G_put (ci := 1) (k := 2) (i := 2 * k + 89) (M1 := qS sw gc (q_u (q_u I (6 * a + b + 16) 2 0) (2 * k + 89) 2 ((I (2 * k + 89) 2) + (20 * (I (2 * k + 89) 1)))) J) rfl rfl (q_shG (by omega)).1 (q_ltG (by omega)).1 rfl rfl rfl ?_
  refine G_st (L := 89) (k := 1) (70, [some (.ref 0), some (.int (nI a)), some (.int (nI b)), some (.int (nI k)), some (.ref (6 * a + b + 16)), some (.ref (2 * k + 89))], [.int 1], qS sw gc (q_u (q_u I (6 * a + b + 16) 2 0) (2 * k + 89) 2 ((I (2 * k + 89) 2) + (20 * (I (2 * k + 89) 1)))) J) (q_hn _ _ _ _) rfl ?_
  exact G_iret rfl rfl rfl rfl
theorem x_clearS {d : Nat} {sw : Bool} {gc : Nat} {I : Nat → Nat → Int32} {J : Nat → Nat → Int64} {a b : Nat} (ha : a < 5) (hb : b < 6) {k : Nat} (hgc : I 0 6 = nI gc) (hg : gc ≤ 8) (hk : k < gc) (hlo : I (6 * a + b + 16) 2 = 0) : GM (d + 1) 75 [.ref 0, .int (nI a), .int (nI b), .int (nI k)] (qS sw gc I J) (some (.int (-2))) (qS sw gc I J) := by
  refine GM_of (by decide) (Nat.le_refl _) (Nat.le_of_ble_eq_true rfl) trivial ?_
  refine G_st (L := 89) (k := 0) (0, [some (.ref 0), some (.int (nI a)), some (.int (nI b)), some (.int (nI k)), none, none], [], qS sw gc I J) (q_hn _ _ _ _) rfl ?_
  refine G_st (L := 89) (k := 4) (6, [some (.ref 0), some (.int (nI a)), some (.int (nI b)), some (.int (nI k)), none, none], [.int (nI b), .int (nI a), .ref 14], qS sw gc I J) (q_hn _ _ _ _) rfl ?_
  refine G_callS (as := [.int (nI a), .int (nI b)]) (rest := [.ref 14]) rfl rfl rfl (Nat.le_of_ble_eq_true rfl) (x_ix_ok ha hb) (Nat.le_refl _) ?_
  refine G_st (L := 89) (k := 0) (9, [some (.ref 0), some (.int (nI a)), some (.int (nI b)), some (.int (nI k)), none, none], [.int (nI (6 * a + b)), .ref 14], qS sw gc I J) (q_hn _ _ _ _) rfl ?_
  refine G_callV (b := 14) (ci := 0) (as := [.int (nI (6 * a + b))]) (rest := []) rfl rfl rfl (q_lt (by decide)) (by decide) rfl rfl (Nat.le_of_ble_eq_true rfl) (x_wallAt (by omega)) (Nat.le_refl _) ?_
  refine G_st (L := 89) (k := 4) (17, [some (.ref 0), some (.int (nI a)), some (.int (nI b)), some (.int (nI k)), some (.ref (6 * a + b + 16)), none], [.long (Int32.toInt64 (nI k)), .ref 0], qS sw gc I J) (q_hn _ _ _ _) rfl ?_
  rw [show Int32.toInt64 (nI k) = lN k from (q_i2lP rfl (by omega))]
  refine G_callV (b := 0) (ci := 8) (as := [.long (lN k)]) (rest := []) rfl rfl rfl (q_lt (by decide)) (by decide) rfl rfl (Nat.le_of_ble_eq_true rfl) (x_gangAt hgc hg hk) (Nat.le_refl _) ?_
  refine G_st (L := 89) (k := 6) (36, [some (.ref 0), some (.int (nI a)), some (.int (nI b)), some (.int (nI k)), some (.ref (6 * a + b + 16)), some (.ref (2 * k + 89))], [.ref (6 * a + b + 16)], qS sw gc I J) (q_hn _ _ _ _) rfl ?_
  refine G_get (ci := 7) (k := 2) (i := 6 * a + b + 16) rfl rfl (q_shW (by omega)) (q_ltW (by omega)) ?_
  refine G_st (L := 89) (k := 0) (39, [some (.ref 0), some (.int (nI a)), some (.int (nI b)), some (.int (nI k)), some (.ref (6 * a + b + 16)), some (.ref (2 * k + 89))], [.int (I (6 * a + b + 16) 2)], qS sw gc I J) (q_hn _ _ _ _) rfl ?_
  refine G_if_ne 45 rfl rfl (fun h9 => absurd hlo h9) (fun _ => ?_)
  refine G_st (L := 89) (k := 1) (44, [some (.ref 0), some (.int (nI a)), some (.int (nI b)), some (.int (nI k)), some (.ref (6 * a + b + 16)), some (.ref (2 * k + 89))], [.int (-2)], qS sw gc I J) (q_hn _ _ _ _) rfl ?_
  exact G_iret rfl rfl rfl rfl
theorem x_clearG {d : Nat} {sw : Bool} {gc : Nat} {I : Nat → Nat → Int32} {J : Nat → Nat → Int64} {a b : Nat} (ha : a < 5) (hb : b < 6) {x : Int32} (hgc : I 0 6 = nI gc) (hg : gc ≤ 8) (hx : Int32.toInt64 x < 0 ∨ lN gc ≤ Int32.toInt64 x) : GM (d + 1) 75 [.ref 0, .int (nI a), .int (nI b), .int x] (qS sw gc I J) (some (.int (-1))) (qS sw gc I J) := by
  refine GM_of (by decide) (Nat.le_refl _) (Nat.le_of_ble_eq_true rfl) trivial ?_
  refine G_st (L := 89) (k := 0) (0, [some (.ref 0), some (.int (nI a)), some (.int (nI b)), some (.int x), none, none], [], qS sw gc I J) (q_hn _ _ _ _) rfl ?_
  refine G_st (L := 89) (k := 4) (6, [some (.ref 0), some (.int (nI a)), some (.int (nI b)), some (.int x), none, none], [.int (nI b), .int (nI a), .ref 14], qS sw gc I J) (q_hn _ _ _ _) rfl ?_
  refine G_callS (as := [.int (nI a), .int (nI b)]) (rest := [.ref 14]) rfl rfl rfl (Nat.le_of_ble_eq_true rfl) (x_ix_ok ha hb) (Nat.le_refl _) ?_
  refine G_st (L := 89) (k := 0) (9, [some (.ref 0), some (.int (nI a)), some (.int (nI b)), some (.int x), none, none], [.int (nI (6 * a + b)), .ref 14], qS sw gc I J) (q_hn _ _ _ _) rfl ?_
  refine G_callV (b := 14) (ci := 0) (as := [.int (nI (6 * a + b))]) (rest := []) rfl rfl rfl (q_lt (by decide)) (by decide) rfl rfl (Nat.le_of_ble_eq_true rfl) (x_wallAt (by omega)) (Nat.le_refl _) ?_
  refine G_st (L := 89) (k := 4) (17, [some (.ref 0), some (.int (nI a)), some (.int (nI b)), some (.int x), some (.ref (6 * a + b + 16)), none], [.long (Int32.toInt64 x), .ref 0], qS sw gc I J) (q_hn _ _ _ _) rfl ?_
  refine G_callV (b := 0) (ci := 8) (as := [.long (Int32.toInt64 x)]) (rest := []) rfl rfl rfl (q_lt (by decide)) (by decide) rfl rfl (Nat.le_of_ble_eq_true rfl) (x_gangAtN hgc hg hx) (Nat.le_refl _) ?_
  refine G_st (L := 89) (k := 6) (33, [some (.ref 0), some (.int (nI a)), some (.int (nI b)), some (.int x), some (.ref (6 * a + b + 16)), some (.null)], [.int (-1)], qS sw gc I J) (q_hn _ _ _ _) rfl ?_
  exact G_iret rfl rfl rfl rfl
theorem x_clearF {d : Nat} {sw : Bool} {gc : Nat} {I : Nat → Nat → Int32} {J : Nat → Nat → Int64} {g c : Int32} (hbad : g < 0 ∨ nI 5 ≤ g ∨ c < 0 ∨ nI 6 ≤ c) {k : Nat} (hgc : I 0 6 = nI gc) (hg : gc ≤ 8) (hk : k < gc) : GM (d + 1) 75 [.ref 0, .int g, .int c, .int (nI k)] (qS sw gc I J) (some (.int (-1))) (qS sw gc I J) := by
  refine GM_of (by decide) (Nat.le_refl _) (Nat.le_of_ble_eq_true rfl) trivial ?_
  refine G_st (L := 89) (k := 0) (0, [some (.ref 0), some (.int g), some (.int c), some (.int (nI k)), none, none], [], qS sw gc I J) (q_hn _ _ _ _) rfl ?_
  refine G_st (L := 89) (k := 4) (6, [some (.ref 0), some (.int g), some (.int c), some (.int (nI k)), none, none], [.int c, .int g, .ref 14], qS sw gc I J) (q_hn _ _ _ _) rfl ?_
  refine G_callS (as := [.int g, .int c]) (rest := [.ref 14]) rfl rfl rfl (Nat.le_of_ble_eq_true rfl) (x_ix_bad hbad) (Nat.le_refl _) ?_
  refine G_st (L := 89) (k := 0) (9, [some (.ref 0), some (.int g), some (.int c), some (.int (nI k)), none, none], [.int (-4), .ref 14], qS sw gc I J) (q_hn _ _ _ _) rfl ?_
  refine G_callV (b := 14) (ci := 0) (as := [.int (-4)]) (rest := []) rfl rfl rfl (q_lt (by decide)) (by decide) rfl rfl (Nat.le_of_ble_eq_true rfl) (x_wallAtN (Or.inl (by decide))) (Nat.le_refl _) ?_
  refine G_st (L := 89) (k := 4) (17, [some (.ref 0), some (.int g), some (.int c), some (.int (nI k)), some (.null), none], [.long (Int32.toInt64 (nI k)), .ref 0], qS sw gc I J) (q_hn _ _ _ _) rfl ?_
  rw [show Int32.toInt64 (nI k) = lN k from (q_i2lP rfl (by omega))]
  refine G_callV (b := 0) (ci := 8) (as := [.long (lN k)]) (rest := []) rfl rfl rfl (q_lt (by decide)) (by decide) rfl rfl (Nat.le_of_ble_eq_true rfl) (x_gangAt hgc hg hk) (Nat.le_refl _) ?_
  refine G_st (L := 89) (k := 4) (33, [some (.ref 0), some (.int g), some (.int c), some (.int (nI k)), some (.null), some (.ref (2 * k + 89))], [.int (-1)], qS sw gc I J) (q_hn _ _ _ _) rfl ?_
  exact G_iret rfl rfl rfl rfl
theorem x_clearFG {d : Nat} {sw : Bool} {gc : Nat} {I : Nat → Nat → Int32} {J : Nat → Nat → Int64} {g c : Int32} (hbad : g < 0 ∨ nI 5 ≤ g ∨ c < 0 ∨ nI 6 ≤ c) {x : Int32} (hgc : I 0 6 = nI gc) (hg : gc ≤ 8) (hx : Int32.toInt64 x < 0 ∨ lN gc ≤ Int32.toInt64 x) : GM (d + 1) 75 [.ref 0, .int g, .int c, .int x] (qS sw gc I J) (some (.int (-1))) (qS sw gc I J) := by
  refine GM_of (by decide) (Nat.le_refl _) (Nat.le_of_ble_eq_true rfl) trivial ?_
  refine G_st (L := 89) (k := 0) (0, [some (.ref 0), some (.int g), some (.int c), some (.int x), none, none], [], qS sw gc I J) (q_hn _ _ _ _) rfl ?_
  refine G_st (L := 89) (k := 4) (6, [some (.ref 0), some (.int g), some (.int c), some (.int x), none, none], [.int c, .int g, .ref 14], qS sw gc I J) (q_hn _ _ _ _) rfl ?_
  refine G_callS (as := [.int g, .int c]) (rest := [.ref 14]) rfl rfl rfl (Nat.le_of_ble_eq_true rfl) (x_ix_bad hbad) (Nat.le_refl _) ?_
  refine G_st (L := 89) (k := 0) (9, [some (.ref 0), some (.int g), some (.int c), some (.int x), none, none], [.int (-4), .ref 14], qS sw gc I J) (q_hn _ _ _ _) rfl ?_
  refine G_callV (b := 14) (ci := 0) (as := [.int (-4)]) (rest := []) rfl rfl rfl (q_lt (by decide)) (by decide) rfl rfl (Nat.le_of_ble_eq_true rfl) (x_wallAtN (Or.inl (by decide))) (Nat.le_refl _) ?_
  refine G_st (L := 89) (k := 4) (17, [some (.ref 0), some (.int g), some (.int c), some (.int x), some (.null), none], [.long (Int32.toInt64 x), .ref 0], qS sw gc I J) (q_hn _ _ _ _) rfl ?_
  refine G_callV (b := 0) (ci := 8) (as := [.long (Int32.toInt64 x)]) (rest := []) rfl rfl rfl (q_lt (by decide)) (by decide) rfl rfl (Nat.le_of_ble_eq_true rfl) (x_gangAtN hgc hg hx) (Nat.le_refl _) ?_
  refine G_st (L := 89) (k := 4) (33, [some (.ref 0), some (.int g), some (.int c), some (.int x), some (.null), some (.null)], [.int (-1)], qS sw gc I J) (q_hn _ _ _ _) rfl ?_
  exact G_iret rfl rfl rfl rfl
def x_td (I : Nat → Nat → Int32) (k : Nat) (q : Int32) : Int32 := if q = 0 then I (2 * k + 89) 1 else if q = 1 then I (2 * k + 89) 2 else if q = 2 then I (2 * k + 89) 3 else if q = 3 then I (2 * k + 89) 4 else if q = 4 then I (2 * k + 89) 5 else if q = 5 then I (2 * k + 89) 6 else -1000000
theorem x_told {d : Nat} {sw : Bool} {gc : Nat} {I : Nat → Nat → Int32} {J : Nat → Nat → Int64} {k : Nat} (hgc : I 0 6 = nI gc) (hg : gc ≤ 8) (hk : k < gc) {q : Int32} : GM (d + 1) 77 [.ref 0, .int (nI k), .int q] (qS sw gc I J) (some (.int (x_td I k q))) (qS sw gc I J) := by
  refine GM_of (by decide) (Nat.le_refl _) (Nat.le_of_ble_eq_true rfl) trivial ?_
  refine G_st (L := 89) (k := 0) (0, [some (.ref 0), some (.int (nI k)), some (.int q), none], [], qS sw gc I J) (q_hn _ _ _ _) rfl ?_
  refine G_st (L := 89) (k := 3) (3, [some (.ref 0), some (.int (nI k)), some (.int q), none], [.long (Int32.toInt64 (nI k)), .ref 0], qS sw gc I J) (q_hn _ _ _ _) rfl ?_
  rw [show Int32.toInt64 (nI k) = lN k from (q_i2lP rfl (by omega))]
  refine G_callV (b := 0) (ci := 8) (as := [.long (lN k)]) (rest := []) rfl rfl rfl (q_lt (by decide)) (by decide) rfl rfl (Nat.le_of_ble_eq_true rfl) (x_gangAt hgc hg hk) (Nat.le_refl _) ?_
  refine G_st (L := 89) (k := 4) (15, [some (.ref 0), some (.int (nI k)), some (.int q), some (.ref (2 * k + 89))], [.int q], qS sw gc I J) (q_hn _ _ _ _) rfl ?_
  by_cases hs0 : q = 0
  · refine G_tsIn 52 rfl (off := 37) (by rw [hs0]; decide) (by rw [hs0]; decide) (by rw [hs0]; rfl) rfl ?_
    refine G_st (L := 89) (k := 1) (53, [some (.ref 0), some (.int (nI k)), some (.int q), some (.ref (2 * k + 89))], [.ref (2 * k + 89)], qS sw gc I J) (q_hn _ _ _ _) rfl ?_
    refine G_get (ci := 1) (k := 1) (i := 2 * k + 89) rfl rfl (q_shG (by omega)).1 (q_ltG (by omega)).1 ?_
    refine G_st (L := 89) (k := 0) (56, [some (.ref 0), some (.int (nI k)), some (.int q), some (.ref (2 * k + 89))], [.int (I (2 * k + 89) 1)], qS sw gc I J) (q_hn _ _ _ _) rfl ?_
    exact G_iret rfl rfl (by rw [x_td, if_pos hs0]) rfl
  by_cases hs1 : q = 1
  · refine G_tsIn 57 rfl (off := 42) (by rw [hs1]; decide) (by rw [hs1]; decide) (by rw [hs1]; rfl) rfl ?_
    refine G_st (L := 89) (k := 1) (58, [some (.ref 0), some (.int (nI k)), some (.int q), some (.ref (2 * k + 89))], [.ref (2 * k + 89)], qS sw gc I J) (q_hn _ _ _ _) rfl ?_
    refine G_get (ci := 1) (k := 2) (i := 2 * k + 89) rfl rfl (q_shG (by omega)).1 (q_ltG (by omega)).1 ?_
    refine G_st (L := 89) (k := 0) (61, [some (.ref 0), some (.int (nI k)), some (.int q), some (.ref (2 * k + 89))], [.int (I (2 * k + 89) 2)], qS sw gc I J) (q_hn _ _ _ _) rfl ?_
    exact G_iret rfl rfl (by rw [x_td, if_neg hs0, if_pos hs1]) rfl
  by_cases hs2 : q = 2
  · refine G_tsIn 62 rfl (off := 47) (by rw [hs2]; decide) (by rw [hs2]; decide) (by rw [hs2]; rfl) rfl ?_
    refine G_st (L := 89) (k := 1) (63, [some (.ref 0), some (.int (nI k)), some (.int q), some (.ref (2 * k + 89))], [.ref (2 * k + 89)], qS sw gc I J) (q_hn _ _ _ _) rfl ?_
    refine G_get (ci := 1) (k := 3) (i := 2 * k + 89) rfl rfl (q_shG (by omega)).1 (q_ltG (by omega)).1 ?_
    refine G_st (L := 89) (k := 0) (66, [some (.ref 0), some (.int (nI k)), some (.int q), some (.ref (2 * k + 89))], [.int (I (2 * k + 89) 3)], qS sw gc I J) (q_hn _ _ _ _) rfl ?_
    exact G_iret rfl rfl (by rw [x_td, if_neg hs0, if_neg hs1, if_pos hs2]) rfl
  by_cases hs3 : q = 3
  · refine G_tsIn 67 rfl (off := 52) (by rw [hs3]; decide) (by rw [hs3]; decide) (by rw [hs3]; rfl) rfl ?_
    refine G_st (L := 89) (k := 1) (68, [some (.ref 0), some (.int (nI k)), some (.int q), some (.ref (2 * k + 89))], [.ref (2 * k + 89)], qS sw gc I J) (q_hn _ _ _ _) rfl ?_
    refine G_get (ci := 1) (k := 4) (i := 2 * k + 89) rfl rfl (q_shG (by omega)).1 (q_ltG (by omega)).1 ?_
    refine G_st (L := 89) (k := 0) (71, [some (.ref 0), some (.int (nI k)), some (.int q), some (.ref (2 * k + 89))], [.int (I (2 * k + 89) 4)], qS sw gc I J) (q_hn _ _ _ _) rfl ?_
    exact G_iret rfl rfl (by rw [x_td, if_neg hs0, if_neg hs1, if_neg hs2, if_pos hs3]) rfl
  by_cases hs4 : q = 4
  · refine G_tsIn 72 rfl (off := 57) (by rw [hs4]; decide) (by rw [hs4]; decide) (by rw [hs4]; rfl) rfl ?_
    refine G_st (L := 89) (k := 1) (73, [some (.ref 0), some (.int (nI k)), some (.int q), some (.ref (2 * k + 89))], [.ref (2 * k + 89)], qS sw gc I J) (q_hn _ _ _ _) rfl ?_
    refine G_get (ci := 1) (k := 5) (i := 2 * k + 89) rfl rfl (q_shG (by omega)).1 (q_ltG (by omega)).1 ?_
    refine G_st (L := 89) (k := 0) (76, [some (.ref 0), some (.int (nI k)), some (.int q), some (.ref (2 * k + 89))], [.int (I (2 * k + 89) 5)], qS sw gc I J) (q_hn _ _ _ _) rfl ?_
    exact G_iret rfl rfl (by rw [x_td, if_neg hs0, if_neg hs1, if_neg hs2, if_neg hs3, if_pos hs4]) rfl
  by_cases hs5 : q = 5
  · refine G_tsIn 77 rfl (off := 62) (by rw [hs5]; decide) (by rw [hs5]; decide) (by rw [hs5]; rfl) rfl ?_
    refine G_st (L := 89) (k := 1) (78, [some (.ref 0), some (.int (nI k)), some (.int q), some (.ref (2 * k + 89))], [.ref (2 * k + 89)], qS sw gc I J) (q_hn _ _ _ _) rfl ?_
    refine G_get (ci := 1) (k := 6) (i := 2 * k + 89) rfl rfl (q_shG (by omega)).1 (q_ltG (by omega)).1 ?_
    refine G_st (L := 89) (k := 0) (81, [some (.ref 0), some (.int (nI k)), some (.int q), some (.ref (2 * k + 89))], [.int (I (2 * k + 89) 6)], qS sw gc I J) (q_hn _ _ _ _) rfl ?_
    exact G_iret rfl rfl (by rw [x_td, if_neg hs0, if_neg hs1, if_neg hs2, if_neg hs3, if_neg hs4, if_pos hs5]) rfl
  refine G_tsOut 82 rfl (q_out6 hs0 hs1 hs2 hs3 hs4 hs5) rfl ?_
  refine G_st (L := 89) (k := 1) (84, [some (.ref 0), some (.int (nI k)), some (.int q), some (.ref (2 * k + 89))], [.int (-1000000)], qS sw gc I J) (q_hn _ _ _ _) rfl ?_
  exact G_iret rfl rfl (by rw [x_td, if_neg hs0, if_neg hs1, if_neg hs2, if_neg hs3, if_neg hs4, if_neg hs5]) rfl
theorem x_toldG {d : Nat} {sw : Bool} {gc : Nat} {I : Nat → Nat → Int32} {J : Nat → Nat → Int64} {x : Int32} (hgc : I 0 6 = nI gc) (hg : gc ≤ 8) (hx : Int32.toInt64 x < 0 ∨ lN gc ≤ Int32.toInt64 x) {q : Int32} : GM (d + 1) 77 [.ref 0, .int x, .int q] (qS sw gc I J) (some (.int (-1000000))) (qS sw gc I J) := by
  refine GM_of (by decide) (Nat.le_refl _) (Nat.le_of_ble_eq_true rfl) trivial ?_
  refine G_st (L := 89) (k := 0) (0, [some (.ref 0), some (.int x), some (.int q), none], [], qS sw gc I J) (q_hn _ _ _ _) rfl ?_
  refine G_st (L := 89) (k := 3) (3, [some (.ref 0), some (.int x), some (.int q), none], [.long (Int32.toInt64 x), .ref 0], qS sw gc I J) (q_hn _ _ _ _) rfl ?_
  refine G_callV (b := 0) (ci := 8) (as := [.long (Int32.toInt64 x)]) (rest := []) rfl rfl rfl (q_lt (by decide)) (by decide) rfl rfl (Nat.le_of_ble_eq_true rfl) (x_gangAtN hgc hg hx) (Nat.le_refl _) ?_
  refine G_st (L := 89) (k := 4) (13, [some (.ref 0), some (.int x), some (.int q), some (.null)], [.int (-1000000)], qS sw gc I J) (q_hn _ _ _ _) rfl ?_
  exact G_iret rfl rfl rfl rfl
end
