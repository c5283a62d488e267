section
-- ===== PART A: goes FIRST, ahead of the names: the tables' words, and 'selects' of the private methods out of them =====
/-- a private method of a class that the tables say can be made, by its rows of tables_1 -/
def lw_okq (q : MethodName × Nat) : Prop := (q.1.cls ≠ "java/lang/invoke/MethodHandle" ∧ q.1.cls ≠ "java/lang/invoke/VarHandle") ∧ Cond.instantiable q.1.cls q.2 ∈ tables_1 ∧ Cond.privateMethod q.1 ∈ tables_1 ∧ Cond.instanceMethod q.1 ∈ tables_1
theorem lw_p0 : lw_okq (⟨"EvenScatter", "sizeFault", "(II)I"⟩, 8) := ⟨⟨by decide +kernel, by decide +kernel⟩, List.mem_of_getElem? (i := 12) (by decide +kernel), List.mem_of_getElem? (i := 124) (by decide +kernel), List.mem_of_getElem? (i := 125) (by decide +kernel)⟩
theorem lw_p1 : lw_okq (⟨"EvenScatter", "refuse", "(I)I"⟩, 8) := ⟨⟨by decide +kernel, by decide +kernel⟩, List.mem_of_getElem? (i := 12) (by decide +kernel), List.mem_of_getElem? (i := 128) (by decide +kernel), List.mem_of_getElem? (i := 129) (by decide +kernel)⟩
theorem lw_p2 : lw_okq (⟨"EvenScatter", "keep", "(LEvenScatter$Scatter;)I"⟩, 8) := ⟨⟨by decide +kernel, by decide +kernel⟩, List.mem_of_getElem? (i := 12) (by decide +kernel), List.mem_of_getElem? (i := 185) (by decide +kernel), List.mem_of_getElem? (i := 186) (by decide +kernel)⟩
theorem lw_p3 : lw_okq (⟨"EvenScatter", "find", "(I)LEvenScatter$Scatter;"⟩, 8) := ⟨⟨by decide +kernel, by decide +kernel⟩, List.mem_of_getElem? (i := 12) (by decide +kernel), List.mem_of_getElem? (i := 193) (by decide +kernel), List.mem_of_getElem? (i := 194) (by decide +kernel)⟩
theorem lw_p4 : lw_okq (⟨"EvenScatter$Scatter", "columnAt", "(II)I"⟩, 9) := ⟨⟨by decide +kernel, by decide +kernel⟩, List.mem_of_getElem? (i := 131) (by decide +kernel), List.mem_of_getElem? (i := 213) (by decide +kernel), List.mem_of_getElem? (i := 214) (by decide +kernel)⟩
theorem lw_p5 : lw_okq (⟨"EvenScatter", "shapeFault", "(LEvenScatter$Scatter;)I"⟩, 8) := ⟨⟨by decide +kernel, by decide +kernel⟩, List.mem_of_getElem? (i := 12) (by decide +kernel), List.mem_of_getElem? (i := 341) (by decide +kernel), List.mem_of_getElem? (i := 342) (by decide +kernel)⟩
theorem lw_p6 : lw_okq (⟨"EvenScatter", "firstUneven", "(LEvenScatter$Scatter;)I"⟩, 8) := ⟨⟨by decide +kernel, by decide +kernel⟩, List.mem_of_getElem? (i := 12) (by decide +kernel), List.mem_of_getElem? (i := 353) (by decide +kernel), List.mem_of_getElem? (i := 354) (by decide +kernel)⟩
theorem lw_p7 : lw_okq (⟨"EvenScatter$Ranks", "gradeOfChosen", "(LEvenScatter$Scatter;)I"⟩, 5) := ⟨⟨by decide +kernel, by decide +kernel⟩, List.mem_of_getElem? (i := 42) (by decide +kernel), List.mem_of_getElem? (i := 379) (by decide +kernel), List.mem_of_getElem? (i := 380) (by decide +kernel)⟩
theorem lw_p8 : lw_okq (⟨"EvenScatter$Ranks", "walk", "(LEvenScatter$Scatter;I)V"⟩, 5) := ⟨⟨by decide +kernel, by decide +kernel⟩, List.mem_of_getElem? (i := 42) (by decide +kernel), List.mem_of_getElem? (i := 383) (by decide +kernel), List.mem_of_getElem? (i := 384) (by decide +kernel)⟩
theorem lw_p9 : lw_okq (⟨"EvenScatter$Ranks", "keepIfIndependent", "(I)Z"⟩, 5) := ⟨⟨by decide +kernel, by decide +kernel⟩, List.mem_of_getElem? (i := 42) (by decide +kernel), List.mem_of_getElem? (i := 388) (by decide +kernel), List.mem_of_getElem? (i := 389) (by decide +kernel)⟩
theorem lw_p10 : lw_okq (⟨"EvenScatter", "refuseLong", "(I)J"⟩, 8) := ⟨⟨by decide +kernel, by decide +kernel⟩, List.mem_of_getElem? (i := 12) (by decide +kernel), List.mem_of_getElem? (i := 405) (by decide +kernel), List.mem_of_getElem? (i := 406) (by decide +kernel)⟩
theorem lw_p11 : lw_okq (⟨"EvenScatter$Corners", "noteParts", "(LEvenScatter$Scatter;)V"⟩, 7) := ⟨⟨by decide +kernel, by decide +kernel⟩, List.mem_of_getElem? (i := 64) (by decide +kernel), List.mem_of_getElem? (i := 443) (by decide +kernel), List.mem_of_getElem? (i := 444) (by decide +kernel)⟩
theorem lw_p12 : lw_okq (⟨"EvenScatter$Corners", "countBelow", "(LEvenScatter$Scatter;[I)V"⟩, 7) := ⟨⟨by decide +kernel, by decide +kernel⟩, List.mem_of_getElem? (i := 64) (by decide +kernel), List.mem_of_getElem? (i := 451) (by decide +kernel), List.mem_of_getElem? (i := 452) (by decide +kernel)⟩
theorem lw_p13 : lw_okq (⟨"EvenScatter$Corners", "diagonalOf", "(LEvenScatter$Scatter;)I"⟩, 7) := ⟨⟨by decide +kernel, by decide +kernel⟩, List.mem_of_getElem? (i := 64) (by decide +kernel), List.mem_of_getElem? (i := 456) (by decide +kernel), List.mem_of_getElem? (i := 457) (by decide +kernel)⟩
theorem lw_p14 : lw_okq (⟨"EvenScatter$Corners", "setHighs", "(LEvenScatter$Scatter;I)V"⟩, 7) := ⟨⟨by decide +kernel, by decide +kernel⟩, List.mem_of_getElem? (i := 64) (by decide +kernel), List.mem_of_getElem? (i := 460) (by decide +kernel), List.mem_of_getElem? (i := 461) (by decide +kernel)⟩
theorem lw_p15 : lw_okq (⟨"EvenScatter$Corners", "cornerMayBe", "(LEvenScatter$Scatter;Z)Z"⟩, 7) := ⟨⟨by decide +kernel, by decide +kernel⟩, List.mem_of_getElem? (i := 64) (by decide +kernel), List.mem_of_getElem? (i := 464) (by decide +kernel), List.mem_of_getElem? (i := 465) (by decide +kernel)⟩
def lw_privs_1 : List (MethodName × Nat) := [(⟨"EvenScatter", "sizeFault", "(II)I"⟩, 8), (⟨"EvenScatter", "refuse", "(I)I"⟩, 8), (⟨"EvenScatter", "keep", "(LEvenScatter$Scatter;)I"⟩, 8), (⟨"EvenScatter", "find", "(I)LEvenScatter$Scatter;"⟩, 8), (⟨"EvenScatter$Scatter", "columnAt", "(II)I"⟩, 9), (⟨"EvenScatter", "shapeFault", "(LEvenScatter$Scatter;)I"⟩, 8), (⟨"EvenScatter", "firstUneven", "(LEvenScatter$Scatter;)I"⟩, 8), (⟨"EvenScatter$Ranks", "gradeOfChosen", "(LEvenScatter$Scatter;)I"⟩, 5), (⟨"EvenScatter$Ranks", "walk", "(LEvenScatter$Scatter;I)V"⟩, 5), (⟨"EvenScatter$Ranks", "keepIfIndependent", "(I)Z"⟩, 5), (⟨"EvenScatter", "refuseLong", "(I)J"⟩, 8), (⟨"EvenScatter$Corners", "noteParts", "(LEvenScatter$Scatter;)V"⟩, 7), (⟨"EvenScatter$Corners", "countBelow", "(LEvenScatter$Scatter;[I)V"⟩, 7), (⟨"EvenScatter$Corners", "diagonalOf", "(LEvenScatter$Scatter;)I"⟩, 7), (⟨"EvenScatter$Corners", "setHighs", "(LEvenScatter$Scatter;I)V"⟩, 7), (⟨"EvenScatter$Corners", "cornerMayBe", "(LEvenScatter$Scatter;Z)Z"⟩, 7)]
theorem lw_r1 : ∀ q ∈ lw_privs_1, lw_okq q := List.forall_mem_cons.mpr ⟨lw_p0, List.forall_mem_cons.mpr ⟨lw_p1, List.forall_mem_cons.mpr ⟨lw_p2, List.forall_mem_cons.mpr ⟨lw_p3, List.forall_mem_cons.mpr ⟨lw_p4, List.forall_mem_cons.mpr ⟨lw_p5, List.forall_mem_cons.mpr ⟨lw_p6, List.forall_mem_cons.mpr ⟨lw_p7, List.forall_mem_cons.mpr ⟨lw_p8, List.forall_mem_cons.mpr ⟨lw_p9, List.forall_mem_cons.mpr ⟨lw_p10, List.forall_mem_cons.mpr ⟨lw_p11, List.forall_mem_cons.mpr ⟨lw_p12, List.forall_mem_cons.mpr ⟨lw_p13, List.forall_mem_cons.mpr ⟨lw_p14, List.forall_mem_cons.mpr ⟨lw_p15, fun _ h => absurd h List.not_mem_nil⟩⟩⟩⟩⟩⟩⟩⟩⟩⟩⟩⟩⟩⟩⟩⟩
theorem lw_p16 : lw_okq (⟨"EvenScatter$Corners", "sizeOf", "(LEvenScatter$Scatter;)J"⟩, 7) := ⟨⟨by decide +kernel, by decide +kernel⟩, List.mem_of_getElem? (i := 64) (by decide +kernel), List.mem_of_getElem? (i := 468) (by decide +kernel), List.mem_of_getElem? (i := 469) (by decide +kernel)⟩
theorem lw_p17 : lw_okq (⟨"EvenScatter$Corners", "consider", "(LEvenScatter$Scatter;JZ)V"⟩, 7) := ⟨⟨by decide +kernel, by decide +kernel⟩, List.mem_of_getElem? (i := 64) (by decide +kernel), List.mem_of_getElem? (i := 472) (by decide +kernel), List.mem_of_getElem? (i := 473) (by decide +kernel)⟩
theorem lw_p18 : lw_okq (⟨"EvenScatter", "fillWaves", "(LEvenScatter$Scatter;I)V"⟩, 8) := ⟨⟨by decide +kernel, by decide +kernel⟩, List.mem_of_getElem? (i := 12) (by decide +kernel), List.mem_of_getElem? (i := 508) (by decide +kernel), List.mem_of_getElem? (i := 509) (by decide +kernel)⟩
theorem lw_p19 : lw_okq (⟨"EvenScatterModel", "refuse", "(I)I"⟩, 21) := ⟨⟨by decide +kernel, by decide +kernel⟩, List.mem_of_getElem? (i := 527) (by decide +kernel), List.mem_of_getElem? (i := 607) (by decide +kernel), List.mem_of_getElem? (i := 608) (by decide +kernel)⟩
theorem lw_p20 : lw_okq (⟨"EvenScatterModel", "make", "(IIII)I"⟩, 21) := ⟨⟨by decide +kernel, by decide +kernel⟩, List.mem_of_getElem? (i := 527) (by decide +kernel), List.mem_of_getElem? (i := 611) (by decide +kernel), List.mem_of_getElem? (i := 612) (by decide +kernel)⟩
theorem lw_p21 : lw_okq (⟨"EvenScatterModel", "hasDirection", "(II)Z"⟩, 21) := ⟨⟨by decide +kernel, by decide +kernel⟩, List.mem_of_getElem? (i := 527) (by decide +kernel), List.mem_of_getElem? (i := 619) (by decide +kernel), List.mem_of_getElem? (i := 620) (by decide +kernel)⟩
theorem lw_p22 : lw_okq (⟨"EvenScatterModel", "isScatter", "(I)Z"⟩, 21) := ⟨⟨by decide +kernel, by decide +kernel⟩, List.mem_of_getElem? (i := 527) (by decide +kernel), List.mem_of_getElem? (i := 623) (by decide +kernel), List.mem_of_getElem? (i := 624) (by decide +kernel)⟩
theorem lw_p23 : lw_okq (⟨"EvenScatterModel", "partOf", "(III)I"⟩, 21) := ⟨⟨by decide +kernel, by decide +kernel⟩, List.mem_of_getElem? (i := 527) (by decide +kernel), List.mem_of_getElem? (i := 669) (by decide +kernel), List.mem_of_getElem? (i := 670) (by decide +kernel)⟩
theorem lw_p24 : lw_okq (⟨"EvenScatterModel", "lacksShape", "(I)I"⟩, 21) := ⟨⟨by decide +kernel, by decide +kernel⟩, List.mem_of_getElem? (i := 527) (by decide +kernel), List.mem_of_getElem? (i := 706) (by decide +kernel), List.mem_of_getElem? (i := 707) (by decide +kernel)⟩
theorem lw_p25 : lw_okq (⟨"EvenScatterModel", "uneven", "(I)I"⟩, 21) := ⟨⟨by decide +kernel, by decide +kernel⟩, List.mem_of_getElem? (i := 527) (by decide +kernel), List.mem_of_getElem? (i := 710) (by decide +kernel), List.mem_of_getElem? (i := 711) (by decide +kernel)⟩
theorem lw_p26 : lw_okq (⟨"EvenScatterModel", "gradeOf", "(II)I"⟩, 21) := ⟨⟨by decide +kernel, by decide +kernel⟩, List.mem_of_getElem? (i := 527) (by decide +kernel), List.mem_of_getElem? (i := 722) (by decide +kernel), List.mem_of_getElem? (i := 723) (by decide +kernel)⟩
theorem lw_p27 : lw_okq (⟨"EvenScatterModel", "areEven", "(III)Z"⟩, 21) := ⟨⟨by decide +kernel, by decide +kernel⟩, List.mem_of_getElem? (i := 527) (by decide +kernel), List.mem_of_getElem? (i := 726) (by decide +kernel), List.mem_of_getElem? (i := 727) (by decide +kernel)⟩
theorem lw_p28 : lw_okq (⟨"EvenScatterModel", "refuseLong", "(I)J"⟩, 21) := ⟨⟨by decide +kernel, by decide +kernel⟩, List.mem_of_getElem? (i := 527) (by decide +kernel), List.mem_of_getElem? (i := 738) (by decide +kernel), List.mem_of_getElem? (i := 739) (by decide +kernel)⟩
theorem lw_p29 : lw_okq (⟨"EvenScatterModel", "cornerLess", "(IZ)J"⟩, 21) := ⟨⟨by decide +kernel, by decide +kernel⟩, List.mem_of_getElem? (i := 527) (by decide +kernel), List.mem_of_getElem? (i := 743) (by decide +kernel), List.mem_of_getElem? (i := 744) (by decide +kernel)⟩
theorem lw_p30 : lw_okq (⟨"EvenScatterModel", "inCorner", "(IZ)I"⟩, 21) := ⟨⟨by decide +kernel, by decide +kernel⟩, List.mem_of_getElem? (i := 527) (by decide +kernel), List.mem_of_getElem? (i := 747) (by decide +kernel), List.mem_of_getElem? (i := 748) (by decide +kernel)⟩
theorem lw_p31 : lw_okq (⟨"EvenScatterModel", "waveOf", "(I)J"⟩, 21) := ⟨⟨by decide +kernel, by decide +kernel⟩, List.mem_of_getElem? (i := 527) (by decide +kernel), List.mem_of_getElem? (i := 774) (by decide +kernel), List.mem_of_getElem? (i := 775) (by decide +kernel)⟩
def lw_privs_2 : List (MethodName × Nat) := [(⟨"EvenScatter$Corners", "sizeOf", "(LEvenScatter$Scatter;)J"⟩, 7), (⟨"EvenScatter$Corners", "consider", "(LEvenScatter$Scatter;JZ)V"⟩, 7), (⟨"EvenScatter", "fillWaves", "(LEvenScatter$Scatter;I)V"⟩, 8), (⟨"EvenScatterModel", "refuse", "(I)I"⟩, 21), (⟨"EvenScatterModel", "make", "(IIII)I"⟩, 21), (⟨"EvenScatterModel", "hasDirection", "(II)Z"⟩, 21), (⟨"EvenScatterModel", "isScatter", "(I)Z"⟩, 21), (⟨"EvenScatterModel", "partOf", "(III)I"⟩, 21), (⟨"EvenScatterModel", "lacksShape", "(I)I"⟩, 21), (⟨"EvenScatterModel", "uneven", "(I)I"⟩, 21), (⟨"EvenScatterModel", "gradeOf", "(II)I"⟩, 21), (⟨"EvenScatterModel", "areEven", "(III)Z"⟩, 21), (⟨"EvenScatterModel", "refuseLong", "(I)J"⟩, 21), (⟨"EvenScatterModel", "cornerLess", "(IZ)J"⟩, 21), (⟨"EvenScatterModel", "inCorner", "(IZ)I"⟩, 21), (⟨"EvenScatterModel", "waveOf", "(I)J"⟩, 21)]
theorem lw_r2 : ∀ q ∈ lw_privs_2, lw_okq q := List.forall_mem_cons.mpr ⟨lw_p16, List.forall_mem_cons.mpr ⟨lw_p17, List.forall_mem_cons.mpr ⟨lw_p18, List.forall_mem_cons.mpr ⟨lw_p19, List.forall_mem_cons.mpr ⟨lw_p20, List.forall_mem_cons.mpr ⟨lw_p21, List.forall_mem_cons.mpr ⟨lw_p22, List.forall_mem_cons.mpr ⟨lw_p23, List.forall_mem_cons.mpr ⟨lw_p24, List.forall_mem_cons.mpr ⟨lw_p25, List.forall_mem_cons.mpr ⟨lw_p26, List.forall_mem_cons.mpr ⟨lw_p27, List.forall_mem_cons.mpr ⟨lw_p28, List.forall_mem_cons.mpr ⟨lw_p29, List.forall_mem_cons.mpr ⟨lw_p30, List.forall_mem_cons.mpr ⟨lw_p31, fun _ h => absurd h List.not_mem_nil⟩⟩⟩⟩⟩⟩⟩⟩⟩⟩⟩⟩⟩⟩⟩⟩
def lw_privs : List (MethodName × Nat) := lw_privs_1 ++ (lw_privs_2)
def lw_tbl : List Cond := k2_sels lw_privs ++ tables_1
theorem lw_privs_ok : ∀ q ∈ lw_privs, lw_okq q := by
  show ∀ q ∈ lw_privs_1 ++ (lw_privs_2), lw_okq q
  exact List.forall_mem_append.mpr ⟨lw_r1, lw_r2⟩
end
section

def RX0 : String := "EvenScatter$Corners"
def TX0 : u_T := fun k => match k with
  | 0 => ("EvenScatter$Corners", "bestHighs", "[I", true)
  | 1 => ("EvenScatter$Corners", "best", "J", false)
  | 2 => ("EvenScatter$Corners", "bestIsClosed", "Z", false)
  | 3 => ("EvenScatter$Corners", "highs", "[I", true)
  | 4 => ("EvenScatter$Corners", "uses", "[I", true)
  | 5 => ("EvenScatter$Corners", "base", "I", false)
  | _ => ("EvenScatter$Corners", "number", "I", false)
def tyX0 : Nat → FieldType := fun k => match k with
  | 0 => .array .int
  | 1 => .long
  | 2 => .boolean
  | 3 => .array .int
  | 4 => .array .int
  | 5 => .int
  | _ => .int
abbrev wsX00 : List Cond := u_ws RX0 TX0 7
theorem nmX0 : ∀ a, a < 7 → ∀ b, b < 7 → a ≠ b → (TX0 a).2.1 ≠ (TX0 b).2.1 := by decide +kernel
theorem tyX0_ok : ∀ k, k < 7 → parseFieldDescriptor (TX0 k).2.2.1 = some (tyX0 k) := by decide +kernel
abbrev cX0_init : ByteArray := prog_2_method_1_code
def yX0_init : MethodName := ⟨RX0, "<init>", "()V"⟩
abbrev cX0_search : ByteArray := prog_2_method_2_code
def yX0_search : MethodName := ⟨RX0, "search", "(LEvenScatter$Scatter;[I)V"⟩
abbrev cX0_consider : ByteArray := prog_2_method_3_code
def yX0_consider : MethodName := ⟨RX0, "consider", "(LEvenScatter$Scatter;JZ)V"⟩
abbrev cX0_noteParts : ByteArray := prog_2_method_4_code
def yX0_noteParts : MethodName := ⟨RX0, "noteParts", "(LEvenScatter$Scatter;)V"⟩
abbrev cX0_countBelow : ByteArray := prog_2_method_5_code
def yX0_countBelow : MethodName := ⟨RX0, "countBelow", "(LEvenScatter$Scatter;[I)V"⟩
abbrev cX0_diagonalOf : ByteArray := prog_2_method_6_code
def yX0_diagonalOf : MethodName := ⟨RX0, "diagonalOf", "(LEvenScatter$Scatter;)I"⟩
abbrev cX0_setHighs : ByteArray := prog_2_method_7_code
def yX0_setHighs : MethodName := ⟨RX0, "setHighs", "(LEvenScatter$Scatter;I)V"⟩
abbrev cX0_cornerMayBe : ByteArray := prog_2_method_8_code
def yX0_cornerMayBe : MethodName := ⟨RX0, "cornerMayBe", "(LEvenScatter$Scatter;Z)Z"⟩
abbrev cX0_sizeOf : ByteArray := prog_2_method_9_code
def yX0_sizeOf : MethodName := ⟨RX0, "sizeOf", "(LEvenScatter$Scatter;)J"⟩
def RX1 : String := "EvenScatter$Ranks"
def TX1 : u_T := fun k => match k with
  | 0 => ("EvenScatter$Ranks", "chosen", "[I", true)
  | 1 => ("EvenScatter$Ranks", "kept", "[I", true)
  | 2 => ("EvenScatter$Ranks", "choices", "I", false)
  | 3 => ("EvenScatter$Ranks", "size", "I", false)
  | _ => ("EvenScatter$Ranks", "leastDependent", "I", false)
def tyX1 : Nat → FieldType := fun k => match k with
  | 0 => .array .int
  | 1 => .array .int
  | 2 => .int
  | 3 => .int
  | _ => .int
abbrev wsX10 : List Cond := u_ws RX1 TX1 5
theorem nmX1 : ∀ a, a < 5 → ∀ b, b < 5 → a ≠ b → (TX1 a).2.1 ≠ (TX1 b).2.1 := by decide +kernel
theorem tyX1_ok : ∀ k, k < 5 → parseFieldDescriptor (TX1 k).2.2.1 = some (tyX1 k) := by decide +kernel
abbrev cX1_init : ByteArray := prog_3_method_1_code
def yX1_init : MethodName := ⟨RX1, "<init>", "()V"⟩
abbrev cX1_gradeOfAll : ByteArray := prog_3_method_2_code
def yX1_gradeOfAll : MethodName := ⟨RX1, "gradeOfAll", "(LEvenScatter$Scatter;)I"⟩
abbrev cX1_gradeOfTwo : ByteArray := prog_3_method_3_code
def yX1_gradeOfTwo : MethodName := ⟨RX1, "gradeOfTwo", "(LEvenScatter$Scatter;II)I"⟩
abbrev cX1_gradeOfChosen : ByteArray := prog_3_method_4_code
def yX1_gradeOfChosen : MethodName := ⟨RX1, "gradeOfChosen", "(LEvenScatter$Scatter;)I"⟩
abbrev cX1_walk : ByteArray := prog_3_method_5_code
def yX1_walk : MethodName := ⟨RX1, "walk", "(LEvenScatter$Scatter;I)V"⟩
abbrev cX1_keepIfIndependent : ByteArray := prog_3_method_6_code
def yX1_keepIfIndependent : MethodName := ⟨RX1, "keepIfIndependent", "(I)Z"⟩
def RX2 : String := "EvenScatter$Scatter"
def TX2 : u_T := fun k => match k with
  | 0 => ("EvenScatter$Scatter", "kind", "I", true)
  | 1 => ("EvenScatter$Scatter", "power", "I", true)
  | 2 => ("EvenScatter$Scatter", "count", "I", true)
  | 3 => ("EvenScatter$Scatter", "directions", "I", false)
  | 4 => ("EvenScatter$Scatter", "turn", "I", false)
  | 5 => ("EvenScatter$Scatter", "rows", "[I", true)
  | 6 => ("EvenScatter$Scatter", "masks", "[I", true)
  | 7 => ("EvenScatter$Scatter", "steps", "[I", true)
  | _ => ("EvenScatter$Scatter", "parts", "[I", true)
def tyX2 : Nat → FieldType := fun k => match k with
  | 0 => .int
  | 1 => .int
  | 2 => .int
  | 3 => .int
  | 4 => .int
  | 5 => .array .int
  | 6 => .array .int
  | 7 => .array .int
  | _ => .array .int
abbrev wsX20 : List Cond := u_ws RX2 TX2 9
theorem nmX2 : ∀ a, a < 9 → ∀ b, b < 9 → a ≠ b → (TX2 a).2.1 ≠ (TX2 b).2.1 := by decide +kernel
theorem tyX2_ok : ∀ k, k < 9 → parseFieldDescriptor (TX2 k).2.2.1 = some (tyX2 k) := by decide +kernel
abbrev cX2_init : ByteArray := prog_4_method_1_code
def yX2_init : MethodName := ⟨RX2, "<init>", "(IIII)V"⟩
abbrev cX2_hasDirection : ByteArray := prog_4_method_2_code
def yX2_hasDirection : MethodName := ⟨RX2, "hasDirection", "(I)Z"⟩
abbrev cX2_hasRows : ByteArray := prog_4_method_3_code
def yX2_hasRows : MethodName := ⟨RX2, "hasRows", "()Z"⟩
abbrev cX2_partAt : ByteArray := prog_4_method_4_code
def yX2_partAt : MethodName := ⟨RX2, "partAt", "(II)I"⟩
abbrev cX2_rowAt : ByteArray := prog_4_method_5_code
def yX2_rowAt : MethodName := ⟨RX2, "rowAt", "(II)I"⟩
abbrev cX2_setRow : ByteArray := prog_4_method_6_code
def yX2_setRow : MethodName := ⟨RX2, "setRow", "(III)V"⟩
abbrev cX2_pointOfTurn : ByteArray := prog_4_method_7_code
def yX2_pointOfTurn : MethodName := ⟨RX2, "pointOfTurn", "()I"⟩
abbrev cX2_takeRowsAndMasks : ByteArray := prog_4_method_8_code
def yX2_takeRowsAndMasks : MethodName := ⟨RX2, "takeRowsAndMasks", "(LEvenScatter$Scatter;)V"⟩
abbrev cX2_fillFromRows : ByteArray := prog_4_method_9_code
def yX2_fillFromRows : MethodName := ⟨RX2, "fillFromRows", "(I)V"⟩
abbrev cX2_columnAt : ByteArray := prog_4_method_10_code
def yX2_columnAt : MethodName := ⟨RX2, "columnAt", "(II)I"⟩
abbrev cX2_fillFromStep : ByteArray := prog_4_method_11_code
def yX2_fillFromStep : MethodName := ⟨RX2, "fillFromStep", "(I)V"⟩
abbrev cX2_fillFromSeed : ByteArray := prog_4_method_12_code
def yX2_fillFromSeed : MethodName := ⟨RX2, "fillFromSeed", "(J)V"⟩
abbrev cX2_addRung : ByteArray := prog_4_method_13_code
def yX2_addRung : MethodName := ⟨RX2, "addRung", "(IIJ)V"⟩
abbrev cX2_rungNumbers : ByteArray := prog_4_method_14_code
def yX2_rungNumbers : MethodName := ⟨RX2, "rungNumbers", "(IIJ)[I"⟩
def RX3 : String := "EvenScatter$Tray"
def TX3 : u_T := fun k => match k with
  | 0 => ("EvenScatter$Tray", "lows", "[I", true)
  | 1 => ("EvenScatter$Tray", "highs", "[I", true)
  | _ => ("EvenScatter$Tray", "marks", "[I", true)
def tyX3 : Nat → FieldType := fun k => match k with
  | 0 => .array .int
  | 1 => .array .int
  | _ => .array .int
abbrev wsX30 : List Cond := u_ws RX3 TX3 3
theorem nmX3 : ∀ a, a < 3 → ∀ b, b < 3 → a ≠ b → (TX3 a).2.1 ≠ (TX3 b).2.1 := by decide +kernel
theorem tyX3_ok : ∀ k, k < 3 → parseFieldDescriptor (TX3 k).2.2.1 = some (tyX3 k) := by decide +kernel
abbrev cX3_init : ByteArray := prog_5_method_1_code
def yX3_init : MethodName := ⟨RX3, "<init>", "()V"⟩
abbrev cX3_boxHas : ByteArray := prog_5_method_2_code
def yX3_boxHas : MethodName := ⟨RX3, "boxHas", "(LEvenScatter$Scatter;I)Z"⟩
abbrev cX3_cornerHas : ByteArray := prog_5_method_3_code
def yX3_cornerHas : MethodName := ⟨RX3, "cornerHas", "(LEvenScatter$Scatter;IZ)Z"⟩
abbrev cX3_marksAreParts : ByteArray := prog_5_method_4_code
def yX3_marksAreParts : MethodName := ⟨RX3, "marksAreParts", "(LEvenScatter$Scatter;I)Z"⟩
abbrev cX3_highsMayBe : ByteArray := prog_5_method_5_code
def yX3_highsMayBe : MethodName := ⟨RX3, "highsMayBe", "(LEvenScatter$Scatter;)Z"⟩
abbrev cX3_marksMayBe : ByteArray := prog_5_method_6_code
def yX3_marksMayBe : MethodName := ⟨RX3, "marksMayBe", "(LEvenScatter$Scatter;I)Z"⟩
abbrev cX3_markSum : ByteArray := prog_5_method_7_code
def yX3_markSum : MethodName := ⟨RX3, "markSum", "(LEvenScatter$Scatter;)I"⟩
abbrev cX3_boxOf : ByteArray := prog_5_method_8_code
def yX3_boxOf : MethodName := ⟨RX3, "boxOf", "(LEvenScatter$Scatter;I)I"⟩
abbrev cX3_signOf : ByteArray := prog_5_method_9_code
def yX3_signOf : MethodName := ⟨RX3, "signOf", "(LEvenScatter$Scatter;I)I"⟩
abbrev cX3_productOfPowers : ByteArray := prog_5_method_10_code
def yX3_productOfPowers : MethodName := ⟨RX3, "productOfPowers", "(LEvenScatter$Scatter;I)J"⟩
def RX4 : String := "EvenScatter"
def TX4 : u_T := fun k => match k with
  | 0 => ("EvenScatter", "scatters", "[LEvenScatter$Scatter;", true)
  | 1 => ("EvenScatter", "tray", "LEvenScatter$Tray;", true)
  | 2 => ("EvenScatter", "ranks", "LEvenScatter$Ranks;", true)
  | 3 => ("EvenScatter", "cells", "[I", true)
  | 4 => ("EvenScatter", "corners", "LEvenScatter$Corners;", true)
  | 5 => ("EvenScatter", "refusals", "[I", true)
  | 6 => ("EvenScatter", "made", "I", false)
  | _ => ("EvenScatter", "told", "I", false)
def tyX4 : Nat → FieldType := fun k => match k with
  | 0 => .array (.object "EvenScatter$Scatter")
  | 1 => .object "EvenScatter$Tray"
  | 2 => .object "EvenScatter$Ranks"
  | 3 => .array .int
  | 4 => .object "EvenScatter$Corners"
  | 5 => .array .int
  | 6 => .int
  | _ => .int
abbrev wsX40 : List Cond := u_ws RX4 TX4 8
theorem nmX4 : ∀ a, a < 8 → ∀ b, b < 8 → a ≠ b → (TX4 a).2.1 ≠ (TX4 b).2.1 := by decide +kernel
theorem tyX4_ok : ∀ k, k < 8 → parseFieldDescriptor (TX4 k).2.2.1 = some (tyX4 k) := by decide +kernel
abbrev cX4_init : ByteArray := prog_1_method_1_code
def yX4_init : MethodName := ⟨RX4, "<init>", "()V"⟩
abbrev cX4_table : ByteArray := prog_1_method_2_code
def yX4_table : MethodName := ⟨RX4, "table", "(II)I"⟩
abbrev cX4_row : ByteArray := prog_1_method_3_code
def yX4_row : MethodName := ⟨RX4, "row", "(IIII)I"⟩
abbrev cX4_ladder : ByteArray := prog_1_method_4_code
def yX4_ladder : MethodName := ⟨RX4, "ladder", "(I)I"⟩
abbrev cX4_direction : ByteArray := prog_1_method_5_code
def yX4_direction : MethodName := ⟨RX4, "direction", "(IIJ)I"⟩
abbrev cX4_turned : ByteArray := prog_1_method_6_code
def yX4_turned : MethodName := ⟨RX4, "turned", "(I)I"⟩
abbrev cX4_mask : ByteArray := prog_1_method_7_code
def yX4_mask : MethodName := ⟨RX4, "mask", "(III)I"⟩
abbrev cX4_grid : ByteArray := prog_1_method_8_code
def yX4_grid : MethodName := ⟨RX4, "grid", "(II)I"⟩
abbrev cX4_step : ByteArray := prog_1_method_9_code
def yX4_step : MethodName := ⟨RX4, "step", "(III)I"⟩
abbrev cX4_lots : ByteArray := prog_1_method_10_code
def yX4_lots : MethodName := ⟨RX4, "lots", "(IIJ)I"⟩
abbrev cX4_scatter : ByteArray := prog_1_method_11_code
def yX4_scatter : MethodName := ⟨RX4, "scatter", "(II)I"⟩
abbrev cX4_part : ByteArray := prog_1_method_12_code
def yX4_part : MethodName := ⟨RX4, "part", "(III)I"⟩
abbrev cX4_next : ByteArray := prog_1_method_13_code
def yX4_next : MethodName := ⟨RX4, "next", "(I)I"⟩
abbrev cX4_skip : ByteArray := prog_1_method_14_code
def yX4_skip : MethodName := ⟨RX4, "skip", "(II)I"⟩
abbrev cX4_side : ByteArray := prog_1_method_15_code
def yX4_side : MethodName := ⟨RX4, "side", "(III)I"⟩
abbrev cX4_mark : ByteArray := prog_1_method_16_code
def yX4_mark : MethodName := ⟨RX4, "mark", "(II)I"⟩
abbrev cX4_count : ByteArray := prog_1_method_17_code
def yX4_count : MethodName := ⟨RX4, "count", "(I)I"⟩
abbrev cX4_back : ByteArray := prog_1_method_18_code
def yX4_back : MethodName := ⟨RX4, "back", "(I)I"⟩
abbrev cX4_even : ByteArray := prog_1_method_19_code
def yX4_even : MethodName := ⟨RX4, "even", "(I)I"⟩
abbrev cX4_why : ByteArray := prog_1_method_20_code
def yX4_why : MethodName := ⟨RX4, "why", "(I)I"⟩
abbrev cX4_grade : ByteArray := prog_1_method_21_code
def yX4_grade : MethodName := ⟨RX4, "grade", "(I)I"⟩
abbrev cX4_pair : ByteArray := prog_1_method_22_code
def yX4_pair : MethodName := ⟨RX4, "pair", "(III)I"⟩
abbrev cX4_gap : ByteArray := prog_1_method_23_code
def yX4_gap : MethodName := ⟨RX4, "gap", "(IZI)J"⟩
abbrev cX4_worst : ByteArray := prog_1_method_24_code
def yX4_worst : MethodName := ⟨RX4, "worst", "(II)J"⟩
abbrev cX4_square : ByteArray := prog_1_method_25_code
def yX4_square : MethodName := ⟨RX4, "square", "(II)J"⟩
abbrev cX4_wave : ByteArray := prog_1_method_26_code
def yX4_wave : MethodName := ⟨RX4, "wave", "(I)J"⟩
abbrev cX4_waves : ByteArray := prog_1_method_27_code
def yX4_waves : MethodName := ⟨RX4, "waves", "(III)J"⟩
abbrev cX4_sum : ByteArray := prog_1_method_28_code
def yX4_sum : MethodName := ⟨RX4, "sum", "(II)J"⟩
abbrev cX4_status : ByteArray := prog_1_method_29_code
def yX4_status : MethodName := ⟨RX4, "status", "(I)I"⟩
abbrev cX4_find : ByteArray := prog_1_method_30_code
def yX4_find : MethodName := ⟨RX4, "find", "(I)LEvenScatter$Scatter;"⟩
abbrev cX4_keep : ByteArray := prog_1_method_31_code
def yX4_keep : MethodName := ⟨RX4, "keep", "(LEvenScatter$Scatter;)I"⟩
abbrev cX4_refuse : ByteArray := prog_1_method_32_code
def yX4_refuse : MethodName := ⟨RX4, "refuse", "(I)I"⟩
abbrev cX4_refuseLong : ByteArray := prog_1_method_33_code
def yX4_refuseLong : MethodName := ⟨RX4, "refuseLong", "(I)J"⟩
abbrev cX4_sizeFault : ByteArray := prog_1_method_34_code
def yX4_sizeFault : MethodName := ⟨RX4, "sizeFault", "(II)I"⟩
abbrev cX4_shapeFault : ByteArray := prog_1_method_35_code
def yX4_shapeFault : MethodName := ⟨RX4, "shapeFault", "(LEvenScatter$Scatter;)I"⟩
abbrev cX4_firstUneven : ByteArray := prog_1_method_36_code
def yX4_firstUneven : MethodName := ⟨RX4, "firstUneven", "(LEvenScatter$Scatter;)I"⟩
abbrev cX4_mayBeMeasured : ByteArray := prog_1_method_37_code
def yX4_mayBeMeasured : MethodName := ⟨RX4, "mayBeMeasured", "(LEvenScatter$Scatter;)Z"⟩
abbrev cX4_pointSum : ByteArray := prog_1_method_38_code
def yX4_pointSum : MethodName := ⟨RX4, "pointSum", "(LEvenScatter$Scatter;)J"⟩
abbrev cX4_pairSum : ByteArray := prog_1_method_39_code
def yX4_pairSum : MethodName := ⟨RX4, "pairSum", "(LEvenScatter$Scatter;)J"⟩
abbrev cX4_fillWaves : ByteArray := prog_1_method_40_code
def yX4_fillWaves : MethodName := ⟨RX4, "fillWaves", "(LEvenScatter$Scatter;I)V"⟩
abbrev cX4_degree : ByteArray := prog_1_method_41_code
def yX4_degree : MethodName := ⟨RX4, "degree", "(I)I"⟩
abbrev cX4_firstOf : ByteArray := prog_1_method_42_code
def yX4_firstOf : MethodName := ⟨RX4, "firstOf", "(JI)I"⟩
abbrev cX4_firstsMayBe : ByteArray := prog_1_method_43_code
def yX4_firstsMayBe : MethodName := ⟨RX4, "firstsMayBe", "(IJ)Z"⟩
abbrev cX4_powerOf : ByteArray := prog_1_method_44_code
def yX4_powerOf : MethodName := ⟨RX4, "powerOf", "(JI)J"⟩
abbrev cX4_fraction : ByteArray := prog_1_method_45_code
def yX4_fraction : MethodName := ⟨RX4, "fraction", "(JJZ)J"⟩
abbrev cX4_commonFactor : ByteArray := prog_1_method_46_code
def yX4_commonFactor : MethodName := ⟨RX4, "commonFactor", "(JJ)J"⟩
def RX5 : String := "EvenScatterModel"
def TX5 : u_T := fun k => match k with
  | 0 => ("EvenScatterModel", "many", "I", false)
  | 1 => ("EvenScatterModel", "kind", "[I", true)
  | 2 => ("EvenScatterModel", "dims", "[I", true)
  | 3 => ("EvenScatterModel", "power", "[I", true)
  | 4 => ("EvenScatterModel", "count", "[I", true)
  | 5 => ("EvenScatterModel", "turn", "[I", true)
  | 6 => ("EvenScatterModel", "rows", "[I", true)
  | 7 => ("EvenScatterModel", "masks", "[I", true)
  | 8 => ("EvenScatterModel", "steps", "[I", true)
  | 9 => ("EvenScatterModel", "lots", "[I", true)
  | 10 => ("EvenScatterModel", "low", "[I", true)
  | 11 => ("EvenScatterModel", "high", "[I", true)
  | 12 => ("EvenScatterModel", "marks", "[I", true)
  | 13 => ("EvenScatterModel", "told", "I", false)
  | 14 => ("EvenScatterModel", "refused", "[I", true)
  | 15 => ("EvenScatterModel", "numbers", "[J", true)
  | 16 => ("EvenScatterModel", "boxes", "[I", true)
  | 17 => ("EvenScatterModel", "cuts", "[I", true)
  | 18 => ("EvenScatterModel", "freely", "[I", true)
  | 19 => ("EvenScatterModel", "corner", "[I", true)
  | _ => ("EvenScatterModel", "isPart", "[Z", true)
def tyX5 : Nat → FieldType := fun k => match k with
  | 0 => .int
  | 1 => .array .int
  | 2 => .array .int
  | 3 => .array .int
  | 4 => .array .int
  | 5 => .array .int
  | 6 => .array .int
  | 7 => .array .int
  | 8 => .array .int
  | 9 => .array .int
  | 10 => .array .int
  | 11 => .array .int
  | 12 => .array .int
  | 13 => .int
  | 14 => .array .int
  | 15 => .array .long
  | 16 => .array .int
  | 17 => .array .int
  | 18 => .array .int
  | 19 => .array .int
  | _ => .array .boolean
abbrev wsX50 : List Cond := u_ws RX5 TX5 21
theorem nmX5 : ∀ a, a < 21 → ∀ b, b < 21 → a ≠ b → (TX5 a).2.1 ≠ (TX5 b).2.1 := by decide +kernel
theorem tyX5_ok : ∀ k, k < 21 → parseFieldDescriptor (TX5 k).2.2.1 = some (tyX5 k) := by decide +kernel
abbrev cX5_init : ByteArray := prog_7_method_1_code
def yX5_init : MethodName := ⟨RX5, "<init>", "()V"⟩
abbrev cX5_in : ByteArray := prog_7_method_3_code
def yX5_in : MethodName := ⟨RX5, "in", "(JJJ)Z"⟩
abbrev cX5_refuse : ByteArray := prog_7_method_4_code
def yX5_refuse : MethodName := ⟨RX5, "refuse", "(I)I"⟩
abbrev cX5_refuseLong : ByteArray := prog_7_method_5_code
def yX5_refuseLong : MethodName := ⟨RX5, "refuseLong", "(I)J"⟩
abbrev cX5_isScatter : ByteArray := prog_7_method_6_code
def yX5_isScatter : MethodName := ⟨RX5, "isScatter", "(I)Z"⟩
abbrev cX5_hasDirection : ByteArray := prog_7_method_7_code
def yX5_hasDirection : MethodName := ⟨RX5, "hasDirection", "(II)Z"⟩
abbrev cX5_make : ByteArray := prog_7_method_8_code
def yX5_make : MethodName := ⟨RX5, "make", "(IIII)I"⟩
abbrev cX5_lacks : ByteArray := prog_7_method_9_code
def yX5_lacks : MethodName := ⟨RX5, "lacks", "(II)I"⟩
abbrev cX5_table : ByteArray := prog_7_method_10_code
def yX5_table : MethodName := ⟨RX5, "table", "(II)I"⟩
abbrev cX5_row : ByteArray := prog_7_method_11_code
def yX5_row : MethodName := ⟨RX5, "row", "(IIII)I"⟩
abbrev cX5_ladder : ByteArray := prog_7_method_12_code
def yX5_ladder : MethodName := ⟨RX5, "ladder", "(I)I"⟩
abbrev cX5_direction : ByteArray := prog_7_method_13_code
def yX5_direction : MethodName := ⟨RX5, "direction", "(IIJ)I"⟩
abbrev cX5_turned : ByteArray := prog_7_method_14_code
def yX5_turned : MethodName := ⟨RX5, "turned", "(I)I"⟩
abbrev cX5_mask : ByteArray := prog_7_method_15_code
def yX5_mask : MethodName := ⟨RX5, "mask", "(III)I"⟩
abbrev cX5_grid : ByteArray := prog_7_method_16_code
def yX5_grid : MethodName := ⟨RX5, "grid", "(II)I"⟩
abbrev cX5_step : ByteArray := prog_7_method_17_code
def yX5_step : MethodName := ⟨RX5, "step", "(III)I"⟩
abbrev cX5_lots : ByteArray := prog_7_method_18_code
def yX5_lots : MethodName := ⟨RX5, "lots", "(IIJ)I"⟩
abbrev cX5_scatter : ByteArray := prog_7_method_19_code
def yX5_scatter : MethodName := ⟨RX5, "scatter", "(II)I"⟩
abbrev cX5_odd : ByteArray := prog_7_method_20_code
def yX5_odd : MethodName := ⟨RX5, "odd", "(I)I"⟩
abbrev cX5_partOf : ByteArray := prog_7_method_21_code
def yX5_partOf : MethodName := ⟨RX5, "partOf", "(III)I"⟩
abbrev cX5_part : ByteArray := prog_7_method_22_code
def yX5_part : MethodName := ⟨RX5, "part", "(III)I"⟩
abbrev cX5_next : ByteArray := prog_7_method_23_code
def yX5_next : MethodName := ⟨RX5, "next", "(I)I"⟩
abbrev cX5_skip : ByteArray := prog_7_method_24_code
def yX5_skip : MethodName := ⟨RX5, "skip", "(II)I"⟩
abbrev cX5_side : ByteArray := prog_7_method_25_code
def yX5_side : MethodName := ⟨RX5, "side", "(III)I"⟩
abbrev cX5_mark : ByteArray := prog_7_method_26_code
def yX5_mark : MethodName := ⟨RX5, "mark", "(II)I"⟩
abbrev cX5_count : ByteArray := prog_7_method_27_code
def yX5_count : MethodName := ⟨RX5, "count", "(I)I"⟩
abbrev cX5_back : ByteArray := prog_7_method_28_code
def yX5_back : MethodName := ⟨RX5, "back", "(I)I"⟩
abbrev cX5_uneven : ByteArray := prog_7_method_29_code
def yX5_uneven : MethodName := ⟨RX5, "uneven", "(I)I"⟩
abbrev cX5_lacksShape : ByteArray := prog_7_method_30_code
def yX5_lacksShape : MethodName := ⟨RX5, "lacksShape", "(I)I"⟩
abbrev cX5_even : ByteArray := prog_7_method_31_code
def yX5_even : MethodName := ⟨RX5, "even", "(I)I"⟩
abbrev cX5_why : ByteArray := prog_7_method_32_code
def yX5_why : MethodName := ⟨RX5, "why", "(I)I"⟩
abbrev cX5_areEven : ByteArray := prog_7_method_33_code
def yX5_areEven : MethodName := ⟨RX5, "areEven", "(III)Z"⟩
abbrev cX5_gradeOf : ByteArray := prog_7_method_34_code
def yX5_gradeOf : MethodName := ⟨RX5, "gradeOf", "(II)I"⟩
abbrev cX5_grade : ByteArray := prog_7_method_35_code
def yX5_grade : MethodName := ⟨RX5, "grade", "(I)I"⟩
abbrev cX5_pair : ByteArray := prog_7_method_36_code
def yX5_pair : MethodName := ⟨RX5, "pair", "(III)I"⟩
abbrev cX5_power : ByteArray := prog_7_method_37_code
def yX5_power : MethodName := ⟨RX5, "power", "(JI)J"⟩
abbrev cX5_common : ByteArray := prog_7_method_38_code
def yX5_common : MethodName := ⟨RX5, "common", "(JJ)J"⟩
abbrev cX5_ratio : ByteArray := prog_7_method_39_code
def yX5_ratio : MethodName := ⟨RX5, "ratio", "(JJZ)J"⟩
abbrev cX5_inCorner : ByteArray := prog_7_method_40_code
def yX5_inCorner : MethodName := ⟨RX5, "inCorner", "(IZ)I"⟩
abbrev cX5_cornerLess : ByteArray := prog_7_method_41_code
def yX5_cornerLess : MethodName := ⟨RX5, "cornerLess", "(IZ)J"⟩
abbrev cX5_gap : ByteArray := prog_7_method_42_code
def yX5_gap : MethodName := ⟨RX5, "gap", "(IZI)J"⟩
abbrev cX5_worst : ByteArray := prog_7_method_43_code
def yX5_worst : MethodName := ⟨RX5, "worst", "(II)J"⟩
abbrev cX5_square : ByteArray := prog_7_method_44_code
def yX5_square : MethodName := ⟨RX5, "square", "(II)J"⟩
abbrev cX5_waveOf : ByteArray := prog_7_method_45_code
def yX5_waveOf : MethodName := ⟨RX5, "waveOf", "(I)J"⟩
abbrev cX5_wave : ByteArray := prog_7_method_46_code
def yX5_wave : MethodName := ⟨RX5, "wave", "(I)J"⟩
abbrev cX5_ones : ByteArray := prog_7_method_47_code
def yX5_ones : MethodName := ⟨RX5, "ones", "(I)I"⟩
abbrev cX5_waves : ByteArray := prog_7_method_48_code
def yX5_waves : MethodName := ⟨RX5, "waves", "(III)J"⟩
abbrev cX5_sum : ByteArray := prog_7_method_49_code
def yX5_sum : MethodName := ⟨RX5, "sum", "(II)J"⟩
abbrev cX5_status : ByteArray := prog_7_method_50_code
def yX5_status : MethodName := ⟨RX5, "status", "(I)I"⟩
def RJ6 : String := "java/lang/Integer"
def TJ6 : u_T := fun k => match k with
  | _ => ("", "", "", false)
def tyJ6 : Nat → FieldType := fun k => match k with
  | _ => .int
abbrev wsJ60 : List Cond := u_ws RJ6 TJ6 0
theorem nmJ6 : ∀ a, a < 0 → ∀ b, b < 0 → a ≠ b → (TJ6 a).2.1 ≠ (TJ6 b).2.1 := by decide +kernel
theorem tyJ6_ok : ∀ k, k < 0 → parseFieldDescriptor (TJ6 k).2.2.1 = some (tyJ6 k) := by decide +kernel
abbrev cJ6_bitCount_0f7a4 : ByteArray := prog_8_method_49_code
def yJ6_bitCount_0f7a4 : MethodName := ⟨RJ6, "bitCount", "(I)I"⟩
def RJ9 : String := "java/lang/Math"
def TJ9 : u_T := fun k => match k with
  | _ => ("", "", "", false)
def tyJ9 : Nat → FieldType := fun k => match k with
  | _ => .int
abbrev wsJ90 : List Cond := u_ws RJ9 TJ9 0
theorem nmJ9 : ∀ a, a < 0 → ∀ b, b < 0 → a ≠ b → (TJ9 a).2.1 ≠ (TJ9 b).2.1 := by decide +kernel
theorem tyJ9_ok : ∀ k, k < 0 → parseFieldDescriptor (TJ9 k).2.2.1 = some (tyJ9 k) := by decide +kernel
abbrev cJ9_abs_067f4 : ByteArray := prog_9_method_61_code
def yJ9_abs_067f4 : MethodName := ⟨RJ9, "abs", "(J)J"⟩
abbrev cJ9_max_7cf53 : ByteArray := prog_9_method_65_code
def yJ9_max_7cf53 : MethodName := ⟨RJ9, "max", "(II)I"⟩
abbrev cJ9_min_7cf53 : ByteArray := prog_9_method_69_code
def yJ9_min_7cf53 : MethodName := ⟨RJ9, "min", "(II)I"⟩
def RJ10 : String := "java/lang/System"
def TJ10 : u_T := fun k => match k with
  | _ => ("", "", "", false)
def tyJ10 : Nat → FieldType := fun k => match k with
  | _ => .int
abbrev wsJ100 : List Cond := u_ws RJ10 TJ10 0
theorem nmJ10 : ∀ a, a < 0 → ∀ b, b < 0 → a ≠ b → (TJ10 a).2.1 ≠ (TJ10 b).2.1 := by decide +kernel
theorem tyJ10_ok : ∀ k, k < 0 → parseFieldDescriptor (TJ10 k).2.2.1 = some (tyJ10 k) := by decide +kernel
def RJ7 : String := "java/util/Arrays"
def TJ7 : u_T := fun k => match k with
  | _ => ("", "", "", false)
def tyJ7 : Nat → FieldType := fun k => match k with
  | _ => .int
abbrev wsJ70 : List Cond := u_ws RJ7 TJ7 0
theorem nmJ7 : ∀ a, a < 0 → ∀ b, b < 0 → a ≠ b → (TJ7 a).2.1 ≠ (TJ7 b).2.1 := by decide +kernel
theorem tyJ7_ok : ∀ k, k < 0 → parseFieldDescriptor (TJ7 k).2.2.1 = some (tyJ7 k) := by decide +kernel
abbrev cJ7_rangeCheck_23922 : ByteArray := prog_11_method_30_code
def yJ7_rangeCheck_23922 : MethodName := ⟨RJ7, "rangeCheck", "(III)V"⟩
abbrev cJ7_fill_53178 : ByteArray := prog_11_method_103_code
def yJ7_fill_53178 : MethodName := ⟨RJ7, "fill", "([II)V"⟩
abbrev cJ7_fill_fda19 : ByteArray := prog_11_method_104_code
def yJ7_fill_fda19 : MethodName := ⟨RJ7, "fill", "([IIII)V"⟩
def RL : String := "EvenScatterLaw"
abbrev cL_law : ByteArray := code
def yL_law : MethodName := ⟨RL, "law", "([I)Z"⟩
abbrev vwCl : List vw_C := [(RX0, TX0, 7), (RX1, TX1, 5), (RX2, TX2, 9), (RX3, TX3, 3), (RX4, TX4, 8), (RX5, TX5, 21)]
end
section
def wG : List Cond := lw_tbl.filter goodWord
theorem wg_in {w : Cond} (h : w ∈ wG) : w ∈ lw_tbl := (List.mem_filter.mp h).1
theorem wg_good {w : Cond} (h : w ∈ wG) : goodWord w = true := (List.mem_filter.mp h).2
theorem wgM0 (i : Nat) {w : Cond} (h : (k2_sels lw_privs)[i]? = some w) (g : goodWord w = true) : w ∈ wG := List.mem_filter.mpr ⟨List.mem_append_left _ (List.mem_of_getElem? h), g⟩
theorem lw_m1 {w : Cond} (h : w ∈ tables_1_1) : w ∈ lw_tbl := List.mem_append_right _ (List.mem_append_left _ h)
theorem lw_m2 {w : Cond} (h : w ∈ tables_1_2) : w ∈ lw_tbl := List.mem_append_right _ (List.mem_append_right _ (List.mem_append_left _ h))
theorem lw_m3 {w : Cond} (h : w ∈ tables_1_3) : w ∈ lw_tbl := List.mem_append_right _ (List.mem_append_right _ (List.mem_append_right _ (List.mem_append_left _ h)))
theorem lw_m4 {w : Cond} (h : w ∈ tables_1_4) : w ∈ lw_tbl := List.mem_append_right _ (List.mem_append_right _ (List.mem_append_right _ (List.mem_append_right _ h)))
theorem wgM1 (i : Nat) {w : Cond} (h : tables_1_1[i]? = some w) (g : goodWord w = true) : w ∈ wG := List.mem_filter.mpr ⟨lw_m1 (List.mem_of_getElem? h), g⟩
theorem wgM2 (i : Nat) {w : Cond} (h : tables_1_2[i]? = some w) (g : goodWord w = true) : w ∈ wG := List.mem_filter.mpr ⟨lw_m2 (List.mem_of_getElem? h), g⟩
theorem wgM3 (i : Nat) {w : Cond} (h : tables_1_3[i]? = some w) (g : goodWord w = true) : w ∈ wG := List.mem_filter.mpr ⟨lw_m3 (List.mem_of_getElem? h), g⟩
theorem wgM4 (i : Nat) {w : Cond} (h : tables_1_4[i]? = some w) (g : goodWord w = true) : w ∈ wG := List.mem_filter.mpr ⟨lw_m4 (List.mem_of_getElem? h), g⟩
theorem wgM (i : Nat) {w : Cond} (h : lw_tbl[i]? = some w) (g : goodWord w = true) : w ∈ wG := List.mem_filter.mpr ⟨List.mem_of_getElem? h, g⟩
theorem ws_0 : Cond.selects "EvenScatter" ⟨"EvenScatter", "sizeFault", "(II)I"⟩ ⟨"EvenScatter", "sizeFault", "(II)I"⟩ ∈ wG := wgM0 0 rfl rfl
theorem ws_1 : Cond.selects "EvenScatter" ⟨"EvenScatter", "refuse", "(I)I"⟩ ⟨"EvenScatter", "refuse", "(I)I"⟩ ∈ wG := wgM0 1 rfl rfl
theorem ws_2 : Cond.selects "EvenScatter" ⟨"EvenScatter", "keep", "(LEvenScatter$Scatter;)I"⟩ ⟨"EvenScatter", "keep", "(LEvenScatter$Scatter;)I"⟩ ∈ wG := wgM0 2 rfl rfl
theorem ws_3 : Cond.selects "EvenScatter" ⟨"EvenScatter", "find", "(I)LEvenScatter$Scatter;"⟩ ⟨"EvenScatter", "find", "(I)LEvenScatter$Scatter;"⟩ ∈ wG := wgM0 3 rfl rfl
theorem ws_4 : Cond.selects "EvenScatter$Scatter" ⟨"EvenScatter$Scatter", "columnAt", "(II)I"⟩ ⟨"EvenScatter$Scatter", "columnAt", "(II)I"⟩ ∈ wG := wgM0 4 rfl rfl
theorem ws_5 : Cond.selects "EvenScatter" ⟨"EvenScatter", "shapeFault", "(LEvenScatter$Scatter;)I"⟩ ⟨"EvenScatter", "shapeFault", "(LEvenScatter$Scatter;)I"⟩ ∈ wG := wgM0 5 rfl rfl
theorem ws_6 : Cond.selects "EvenScatter" ⟨"EvenScatter", "firstUneven", "(LEvenScatter$Scatter;)I"⟩ ⟨"EvenScatter", "firstUneven", "(LEvenScatter$Scatter;)I"⟩ ∈ wG := wgM0 6 rfl rfl
theorem ws_7 : Cond.selects "EvenScatter$Ranks" ⟨"EvenScatter$Ranks", "gradeOfChosen", "(LEvenScatter$Scatter;)I"⟩ ⟨"EvenScatter$Ranks", "gradeOfChosen", "(LEvenScatter$Scatter;)I"⟩ ∈ wG := wgM0 7 rfl rfl
theorem ws_8 : Cond.selects "EvenScatter$Ranks" ⟨"EvenScatter$Ranks", "walk", "(LEvenScatter$Scatter;I)V"⟩ ⟨"EvenScatter$Ranks", "walk", "(LEvenScatter$Scatter;I)V"⟩ ∈ wG := wgM0 8 rfl rfl
theorem ws_9 : Cond.selects "EvenScatter$Ranks" ⟨"EvenScatter$Ranks", "keepIfIndependent", "(I)Z"⟩ ⟨"EvenScatter$Ranks", "keepIfIndependent", "(I)Z"⟩ ∈ wG := wgM0 9 rfl rfl
theorem ws_10 : Cond.selects "EvenScatter" ⟨"EvenScatter", "refuseLong", "(I)J"⟩ ⟨"EvenScatter", "refuseLong", "(I)J"⟩ ∈ wG := wgM0 10 rfl rfl
theorem ws_11 : Cond.selects "EvenScatter$Corners" ⟨"EvenScatter$Corners", "noteParts", "(LEvenScatter$Scatter;)V"⟩ ⟨"EvenScatter$Corners", "noteParts", "(LEvenScatter$Scatter;)V"⟩ ∈ wG := wgM0 11 rfl rfl
theorem ws_12 : Cond.selects "EvenScatter$Corners" ⟨"EvenScatter$Corners", "countBelow", "(LEvenScatter$Scatter;[I)V"⟩ ⟨"EvenScatter$Corners", "countBelow", "(LEvenScatter$Scatter;[I)V"⟩ ∈ wG := wgM0 12 rfl rfl
theorem ws_13 : Cond.selects "EvenScatter$Corners" ⟨"EvenScatter$Corners", "diagonalOf", "(LEvenScatter$Scatter;)I"⟩ ⟨"EvenScatter$Corners", "diagonalOf", "(LEvenScatter$Scatter;)I"⟩ ∈ wG := wgM0 13 rfl rfl
theorem ws_14 : Cond.selects "EvenScatter$Corners" ⟨"EvenScatter$Corners", "setHighs", "(LEvenScatter$Scatter;I)V"⟩ ⟨"EvenScatter$Corners", "setHighs", "(LEvenScatter$Scatter;I)V"⟩ ∈ wG := wgM0 14 rfl rfl
theorem ws_15 : Cond.selects "EvenScatter$Corners" ⟨"EvenScatter$Corners", "cornerMayBe", "(LEvenScatter$Scatter;Z)Z"⟩ ⟨"EvenScatter$Corners", "cornerMayBe", "(LEvenScatter$Scatter;Z)Z"⟩ ∈ wG := wgM0 15 rfl rfl
theorem ws_16 : Cond.selects "EvenScatter$Corners" ⟨"EvenScatter$Corners", "sizeOf", "(LEvenScatter$Scatter;)J"⟩ ⟨"EvenScatter$Corners", "sizeOf", "(LEvenScatter$Scatter;)J"⟩ ∈ wG := wgM0 16 rfl rfl
theorem ws_17 : Cond.selects "EvenScatter$Corners" ⟨"EvenScatter$Corners", "consider", "(LEvenScatter$Scatter;JZ)V"⟩ ⟨"EvenScatter$Corners", "consider", "(LEvenScatter$Scatter;JZ)V"⟩ ∈ wG := wgM0 17 rfl rfl
theorem ws_18 : Cond.selects "EvenScatter" ⟨"EvenScatter", "fillWaves", "(LEvenScatter$Scatter;I)V"⟩ ⟨"EvenScatter", "fillWaves", "(LEvenScatter$Scatter;I)V"⟩ ∈ wG := wgM0 18 rfl rfl
theorem ws_19 : Cond.selects "EvenScatterModel" ⟨"EvenScatterModel", "refuse", "(I)I"⟩ ⟨"EvenScatterModel", "refuse", "(I)I"⟩ ∈ wG := wgM0 19 rfl rfl
theorem ws_20 : Cond.selects "EvenScatterModel" ⟨"EvenScatterModel", "make", "(IIII)I"⟩ ⟨"EvenScatterModel", "make", "(IIII)I"⟩ ∈ wG := wgM0 20 rfl rfl
theorem ws_21 : Cond.selects "EvenScatterModel" ⟨"EvenScatterModel", "hasDirection", "(II)Z"⟩ ⟨"EvenScatterModel", "hasDirection", "(II)Z"⟩ ∈ wG := wgM0 21 rfl rfl
theorem ws_22 : Cond.selects "EvenScatterModel" ⟨"EvenScatterModel", "isScatter", "(I)Z"⟩ ⟨"EvenScatterModel", "isScatter", "(I)Z"⟩ ∈ wG := wgM0 22 rfl rfl
theorem ws_23 : Cond.selects "EvenScatterModel" ⟨"EvenScatterModel", "partOf", "(III)I"⟩ ⟨"EvenScatterModel", "partOf", "(III)I"⟩ ∈ wG := wgM0 23 rfl rfl
theorem ws_24 : Cond.selects "EvenScatterModel" ⟨"EvenScatterModel", "lacksShape", "(I)I"⟩ ⟨"EvenScatterModel", "lacksShape", "(I)I"⟩ ∈ wG := wgM0 24 rfl rfl
theorem ws_25 : Cond.selects "EvenScatterModel" ⟨"EvenScatterModel", "uneven", "(I)I"⟩ ⟨"EvenScatterModel", "uneven", "(I)I"⟩ ∈ wG := wgM0 25 rfl rfl
theorem ws_26 : Cond.selects "EvenScatterModel" ⟨"EvenScatterModel", "gradeOf", "(II)I"⟩ ⟨"EvenScatterModel", "gradeOf", "(II)I"⟩ ∈ wG := wgM0 26 rfl rfl
theorem ws_27 : Cond.selects "EvenScatterModel" ⟨"EvenScatterModel", "areEven", "(III)Z"⟩ ⟨"EvenScatterModel", "areEven", "(III)Z"⟩ ∈ wG := wgM0 27 rfl rfl
theorem ws_28 : Cond.selects "EvenScatterModel" ⟨"EvenScatterModel", "refuseLong", "(I)J"⟩ ⟨"EvenScatterModel", "refuseLong", "(I)J"⟩ ∈ wG := wgM0 28 rfl rfl
theorem ws_29 : Cond.selects "EvenScatterModel" ⟨"EvenScatterModel", "cornerLess", "(IZ)J"⟩ ⟨"EvenScatterModel", "cornerLess", "(IZ)J"⟩ ∈ wG := wgM0 29 rfl rfl
theorem ws_30 : Cond.selects "EvenScatterModel" ⟨"EvenScatterModel", "inCorner", "(IZ)I"⟩ ⟨"EvenScatterModel", "inCorner", "(IZ)I"⟩ ∈ wG := wgM0 30 rfl rfl
theorem ws_31 : Cond.selects "EvenScatterModel" ⟨"EvenScatterModel", "waveOf", "(I)J"⟩ ⟨"EvenScatterModel", "waveOf", "(I)J"⟩ ∈ wG := wgM0 31 rfl rfl
theorem wt_0 : (Jvm.Cond.initialized "EvenScatterLaw") ∈ wG := wgM1 0 rfl rfl
theorem wt_1 : (Jvm.Cond.initialized "EvenScatter") ∈ wG := wgM1 1 rfl rfl
theorem wt_2 : (Jvm.Cond.initialized "EvenScatter$Tray") ∈ wG := wgM1 2 rfl rfl
theorem wt_3 : (Jvm.Cond.initialized "EvenScatter$Ranks") ∈ wG := wgM1 3 rfl rfl
theorem wt_4 : (Jvm.Cond.initialized "EvenScatter$Corners") ∈ wG := wgM1 4 rfl rfl
theorem wt_5 : (Jvm.Cond.initialized "EvenScatterModel") ∈ wG := wgM1 5 rfl rfl
theorem wt_6 : (Jvm.Cond.initialized "EvenScatter$Scatter") ∈ wG := wgM1 6 rfl rfl
theorem wt_7 : (Jvm.Cond.initialized "java/lang/Math") ∈ wG := wgM1 7 rfl rfl
theorem wt_8 : (Jvm.Cond.initialized "java/lang/System") ∈ wG := wgM1 8 rfl rfl
theorem wt_9 : (Jvm.Cond.initialized "java/util/Arrays") ∈ wG := wgM1 9 rfl rfl
theorem wt_10 : (Jvm.Cond.initialized "java/lang/Integer") ∈ wG := wgM1 10 rfl rfl
theorem wt_11 : (Jvm.Cond.classLink "EvenScatterLaw" (7 : Nat) "EvenScatter") ∈ wG := wgM1 11 rfl rfl
theorem wt_12 : (Jvm.Cond.instantiable "EvenScatter" (8 : Nat)) ∈ wG := wgM1 12 rfl rfl
theorem wt_13 : (Jvm.Cond.methodLink "EvenScatterLaw" (9 : Nat) ({ cls := "EvenScatter", name := "<init>", desc := "()V" } : Jvm.MethodName)) ∈ wG := wgM1 13 rfl rfl
theorem wt_14 : (Jvm.Cond.instanceMethod ({ cls := "EvenScatter", name := "<init>", desc := "()V" } : Jvm.MethodName)) ∈ wG := wgM1 14 rfl rfl
theorem wt_15 : (Jvm.Cond.code ({ cls := "EvenScatter", name := "<init>", desc := "()V" } : Jvm.MethodName) prog_1_method_1_code (1 : Nat) (Option.none : Option Jvm.ClassFile.FieldType)) ∈ wG := wgM1 15 rfl rfl
theorem wt_16 : (Jvm.Cond.methodLink "EvenScatter" (1 : Nat) ({ cls := "java/lang/Object", name := "<init>", desc := "()V" } : Jvm.MethodName)) ∈ wG := wgM1 16 rfl rfl
theorem wt_17 : (Jvm.Cond.instanceMethod ({ cls := "java/lang/Object", name := "<init>", desc := "()V" } : Jvm.MethodName)) ∈ wG := wgM1 17 rfl rfl
theorem wt_18 : (Jvm.Cond.code ({ cls := "java/lang/Object", name := "<init>", desc := "()V" } : Jvm.MethodName) object_method_1_code (1 : Nat) (Option.none : Option Jvm.ClassFile.FieldType)) ∈ wG := wgM1 18 rfl rfl
theorem wt_19 : (Jvm.Cond.classLink "EvenScatter" (9 : Nat) "EvenScatter$Scatter") ∈ wG := wgM1 19 rfl rfl
theorem wn_20 : (Jvm.Cond.arrayOver (Jvm.ClassFile.FieldType.object "EvenScatter$Scatter")) ∈ lw_tbl := lw_m1 (List.mem_of_getElem? (i := 20) rfl)
theorem wt_21 : (Jvm.Cond.classLink "EvenScatter" (15 : Nat) "EvenScatter$Tray") ∈ wG := wgM1 21 rfl rfl
theorem wt_22 : (Jvm.Cond.instantiable "EvenScatter$Tray" (3 : Nat)) ∈ wG := wgM1 22 rfl rfl
theorem wn_23 : (Jvm.Cond.methodLinkNest "EvenScatter" (17 : Nat) ({ cls := "EvenScatter$Tray", name := "<init>", desc := "()V" } : Jvm.MethodName) "EvenScatter") ∈ lw_tbl := lw_m1 (List.mem_of_getElem? (i := 23) rfl)
theorem wt_24 : (Jvm.Cond.instanceMethod ({ cls := "EvenScatter$Tray", name := "<init>", desc := "()V" } : Jvm.MethodName)) ∈ wG := wgM1 24 rfl rfl
theorem wt_25 : (Jvm.Cond.code ({ cls := "EvenScatter$Tray", name := "<init>", desc := "()V" } : Jvm.MethodName) prog_5_method_1_code (1 : Nat) (Option.none : Option Jvm.ClassFile.FieldType)) ∈ wG := wgM1 25 rfl rfl
theorem wt_26 : (Jvm.Cond.methodLink "EvenScatter$Tray" (3 : Nat) ({ cls := "java/lang/Object", name := "<init>", desc := "()V" } : Jvm.MethodName)) ∈ wG := wgM1 26 rfl rfl
theorem wt_27 : (Jvm.Cond.fieldLink "EvenScatter$Tray" (9 : Nat) "EvenScatter$Tray" "lows" "[I") ∈ wG := wgM1 27 rfl rfl
theorem wt_28 : (Jvm.Cond.fieldLink "EvenScatter" (139 : Nat) "EvenScatter$Tray" "lows" "[I") ∈ wG := wgM1 28 rfl rfl
theorem wt_29 : (Jvm.Cond.fieldLink "EvenScatter$Tray" (15 : Nat) "EvenScatter$Tray" "highs" "[I") ∈ wG := wgM1 29 rfl rfl
theorem wt_30 : (Jvm.Cond.fieldLink "EvenScatter" (142 : Nat) "EvenScatter$Tray" "highs" "[I") ∈ wG := wgM1 30 rfl rfl
theorem wt_31 : (Jvm.Cond.fieldLink "EvenScatter$Tray" (18 : Nat) "EvenScatter$Tray" "marks" "[I") ∈ wG := wgM1 31 rfl rfl
theorem wt_32 : (Jvm.Cond.fieldLink "EvenScatter" (145 : Nat) "EvenScatter$Tray" "marks" "[I") ∈ wG := wgM1 32 rfl rfl
theorem wt_40 : (Jvm.Cond.arrayClass Jvm.ClassFile.FieldType.int) ∈ wG := wgM1 40 rfl rfl
theorem wt_41 : (Jvm.Cond.classLink "EvenScatter" (22 : Nat) "EvenScatter$Ranks") ∈ wG := wgM1 41 rfl rfl
theorem wt_42 : (Jvm.Cond.instantiable "EvenScatter$Ranks" (5 : Nat)) ∈ wG := wgM1 42 rfl rfl
theorem wn_43 : (Jvm.Cond.methodLinkNest "EvenScatter" (24 : Nat) ({ cls := "EvenScatter$Ranks", name := "<init>", desc := "()V" } : Jvm.MethodName) "EvenScatter") ∈ lw_tbl := lw_m1 (List.mem_of_getElem? (i := 43) rfl)
theorem wt_44 : (Jvm.Cond.instanceMethod ({ cls := "EvenScatter$Ranks", name := "<init>", desc := "()V" } : Jvm.MethodName)) ∈ wG := wgM1 44 rfl rfl
theorem wt_45 : (Jvm.Cond.code ({ cls := "EvenScatter$Ranks", name := "<init>", desc := "()V" } : Jvm.MethodName) prog_3_method_1_code (1 : Nat) (Option.none : Option Jvm.ClassFile.FieldType)) ∈ wG := wgM1 45 rfl rfl
theorem wt_46 : (Jvm.Cond.methodLink "EvenScatter$Ranks" (3 : Nat) ({ cls := "java/lang/Object", name := "<init>", desc := "()V" } : Jvm.MethodName)) ∈ wG := wgM1 46 rfl rfl
theorem wt_47 : (Jvm.Cond.fieldLink "EvenScatter$Ranks" (9 : Nat) "EvenScatter$Ranks" "chosen" "[I") ∈ wG := wgM1 47 rfl rfl
theorem wt_48 : (Jvm.Cond.fieldLink "EvenScatter$Ranks" (15 : Nat) "EvenScatter$Ranks" "kept" "[I") ∈ wG := wgM1 48 rfl rfl
theorem wt_49 : (Jvm.Cond.fieldLink "EvenScatter$Ranks" (24 : Nat) "EvenScatter$Ranks" "choices" "I") ∈ wG := wgM1 49 rfl rfl
theorem wt_50 : (Jvm.Cond.fieldLink "EvenScatter$Ranks" (31 : Nat) "EvenScatter$Ranks" "size" "I") ∈ wG := wgM1 50 rfl rfl
theorem wt_51 : (Jvm.Cond.fieldLink "EvenScatter$Ranks" (37 : Nat) "EvenScatter$Ranks" "leastDependent" "I") ∈ wG := wgM1 51 rfl rfl
theorem wt_63 : (Jvm.Cond.classLink "EvenScatter" (33 : Nat) "EvenScatter$Corners") ∈ wG := wgM1 63 rfl rfl
theorem wt_64 : (Jvm.Cond.instantiable "EvenScatter$Corners" (7 : Nat)) ∈ wG := wgM1 64 rfl rfl
theorem wn_65 : (Jvm.Cond.methodLinkNest "EvenScatter" (35 : Nat) ({ cls := "EvenScatter$Corners", name := "<init>", desc := "()V" } : Jvm.MethodName) "EvenScatter") ∈ lw_tbl := lw_m1 (List.mem_of_getElem? (i := 65) rfl)
theorem wt_66 : (Jvm.Cond.instanceMethod ({ cls := "EvenScatter$Corners", name := "<init>", desc := "()V" } : Jvm.MethodName)) ∈ wG := wgM1 66 rfl rfl
theorem wt_67 : (Jvm.Cond.code ({ cls := "EvenScatter$Corners", name := "<init>", desc := "()V" } : Jvm.MethodName) prog_2_method_1_code (1 : Nat) (Option.none : Option Jvm.ClassFile.FieldType)) ∈ wG := wgM1 67 rfl rfl
theorem wt_68 : (Jvm.Cond.methodLink "EvenScatter$Corners" (3 : Nat) ({ cls := "java/lang/Object", name := "<init>", desc := "()V" } : Jvm.MethodName)) ∈ wG := wgM1 68 rfl rfl
theorem wt_69 : (Jvm.Cond.fieldLink "EvenScatter$Corners" (9 : Nat) "EvenScatter$Corners" "bestHighs" "[I") ∈ wG := wgM1 69 rfl rfl
theorem wt_70 : (Jvm.Cond.fieldLink "EvenScatter" (209 : Nat) "EvenScatter$Corners" "bestHighs" "[I") ∈ wG := wgM1 70 rfl rfl
theorem wt_71 : (Jvm.Cond.fieldLink "EvenScatter$Corners" (44 : Nat) "EvenScatter$Corners" "best" "J") ∈ wG := wgM1 71 rfl rfl
theorem wt_72 : (Jvm.Cond.fieldLink "EvenScatter" (201 : Nat) "EvenScatter$Corners" "best" "J") ∈ wG := wgM1 72 rfl rfl
theorem wt_73 : (Jvm.Cond.fieldLink "EvenScatter$Corners" (76 : Nat) "EvenScatter$Corners" "bestIsClosed" "Z") ∈ wG := wgM1 73 rfl rfl
theorem wt_74 : (Jvm.Cond.fieldLink "EvenScatter" (205 : Nat) "EvenScatter$Corners" "bestIsClosed" "Z") ∈ wG := wgM1 74 rfl rfl
theorem wt_75 : (Jvm.Cond.fieldLink "EvenScatter$Corners" (15 : Nat) "EvenScatter$Corners" "highs" "[I") ∈ wG := wgM1 75 rfl rfl
theorem wt_76 : (Jvm.Cond.fieldLink "EvenScatter$Corners" (18 : Nat) "EvenScatter$Corners" "uses" "[I") ∈ wG := wgM1 76 rfl rfl
theorem wt_77 : (Jvm.Cond.fieldLink "EvenScatter$Corners" (27 : Nat) "EvenScatter$Corners" "base" "I") ∈ wG := wgM1 77 rfl rfl
theorem wt_78 : (Jvm.Cond.fieldLink "EvenScatter$Corners" (37 : Nat) "EvenScatter$Corners" "number" "I") ∈ wG := wgM1 78 rfl rfl
theorem wt_94 : (Jvm.Cond.fieldLink "EvenScatter" (11 : Nat) "EvenScatter" "scatters" "[LEvenScatter$Scatter;") ∈ wG := wgM1 94 rfl rfl
theorem wt_95 : (Jvm.Cond.fieldLink "EvenScatter" (18 : Nat) "EvenScatter" "tray" "LEvenScatter$Tray;") ∈ wG := wgM1 95 rfl rfl
theorem wt_96 : (Jvm.Cond.fieldLink "EvenScatter" (25 : Nat) "EvenScatter" "ranks" "LEvenScatter$Ranks;") ∈ wG := wgM1 96 rfl rfl
theorem wt_97 : (Jvm.Cond.fieldLink "EvenScatter" (29 : Nat) "EvenScatter" "cells" "[I") ∈ wG := wgM1 97 rfl rfl
theorem wt_98 : (Jvm.Cond.fieldLink "EvenScatter" (36 : Nat) "EvenScatter" "corners" "LEvenScatter$Corners;") ∈ wG := wgM1 98 rfl rfl
theorem wt_99 : (Jvm.Cond.fieldLink "EvenScatter" (40 : Nat) "EvenScatter" "refusals" "[I") ∈ wG := wgM1 99 rfl rfl
theorem wt_100 : (Jvm.Cond.fieldLink "EvenScatter" (43 : Nat) "EvenScatter" "made" "I") ∈ wG := wgM1 100 rfl rfl
theorem wt_101 : (Jvm.Cond.fieldLink "EvenScatter" (47 : Nat) "EvenScatter" "told" "I") ∈ wG := wgM1 101 rfl rfl
theorem wt_119 : (Jvm.Cond.methodLink "EvenScatterLaw" (13 : Nat) ({ cls := "EvenScatter", name := "table", desc := "(II)I" } : Jvm.MethodName)) ∈ wG := wgM1 119 rfl rfl
theorem wt_120 : (Jvm.Cond.instanceMethod ({ cls := "EvenScatter", name := "table", desc := "(II)I" } : Jvm.MethodName)) ∈ wG := wgM1 120 rfl rfl
theorem wt_121 : (Jvm.Cond.selects "EvenScatter" ({ cls := "EvenScatter", name := "table", desc := "(II)I" } : Jvm.MethodName) ({ cls := "EvenScatter", name := "table", desc := "(II)I" } : Jvm.MethodName)) ∈ wG := wgM1 121 rfl rfl
theorem wt_122 : (Jvm.Cond.code ({ cls := "EvenScatter", name := "table", desc := "(II)I" } : Jvm.MethodName) prog_1_method_2_code (4 : Nat) (Option.some Jvm.ClassFile.FieldType.int)) ∈ wG := wgM1 122 rfl rfl
theorem wt_123 : (Jvm.Cond.methodLink "EvenScatter" (50 : Nat) ({ cls := "EvenScatter", name := "sizeFault", desc := "(II)I" } : Jvm.MethodName)) ∈ wG := wgM1 123 rfl rfl
theorem wt_125 : (Jvm.Cond.instanceMethod ({ cls := "EvenScatter", name := "sizeFault", desc := "(II)I" } : Jvm.MethodName)) ∈ wG := wgM1 125 rfl rfl
theorem wt_126 : (Jvm.Cond.code ({ cls := "EvenScatter", name := "sizeFault", desc := "(II)I" } : Jvm.MethodName) prog_1_method_34_code (3 : Nat) (Option.some Jvm.ClassFile.FieldType.int)) ∈ wG := wgM1 126 rfl rfl
theorem wt_127 : (Jvm.Cond.methodLink "EvenScatter" (54 : Nat) ({ cls := "EvenScatter", name := "refuse", desc := "(I)I" } : Jvm.MethodName)) ∈ wG := wgM1 127 rfl rfl
theorem wt_129 : (Jvm.Cond.instanceMethod ({ cls := "EvenScatter", name := "refuse", desc := "(I)I" } : Jvm.MethodName)) ∈ wG := wgM1 129 rfl rfl
theorem wt_130 : (Jvm.Cond.code ({ cls := "EvenScatter", name := "refuse", desc := "(I)I" } : Jvm.MethodName) prog_1_method_32_code (3 : Nat) (Option.some Jvm.ClassFile.FieldType.int)) ∈ wG := wgM1 130 rfl rfl
theorem wt_131 : (Jvm.Cond.instantiable "EvenScatter$Scatter" (9 : Nat)) ∈ wG := wgM1 131 rfl rfl
theorem wt_132 : (Jvm.Cond.methodLink "EvenScatter" (58 : Nat) ({ cls := "EvenScatter$Scatter", name := "<init>", desc := "(IIII)V" } : Jvm.MethodName)) ∈ wG := wgM1 132 rfl rfl
theorem wt_133 : (Jvm.Cond.instanceMethod ({ cls := "EvenScatter$Scatter", name := "<init>", desc := "(IIII)V" } : Jvm.MethodName)) ∈ wG := wgM1 133 rfl rfl
theorem wt_134 : (Jvm.Cond.code ({ cls := "EvenScatter$Scatter", name := "<init>", desc := "(IIII)V" } : Jvm.MethodName) prog_4_method_1_code (5 : Nat) (Option.none : Option Jvm.ClassFile.FieldType)) ∈ wG := wgM1 134 rfl rfl
theorem wt_135 : (Jvm.Cond.methodLink "EvenScatter$Scatter" (3 : Nat) ({ cls := "java/lang/Object", name := "<init>", desc := "()V" } : Jvm.MethodName)) ∈ wG := wgM1 135 rfl rfl
theorem wt_136 : (Jvm.Cond.methodLink "EvenScatter$Scatter" (31 : Nat) ({ cls := "java/lang/Math", name := "min", desc := "(II)I" } : Jvm.MethodName)) ∈ wG := wgM1 136 rfl rfl
theorem wt_137 : (Jvm.Cond.static ({ cls := "java/lang/Math", name := "min", desc := "(II)I" } : Jvm.MethodName)) ∈ wG := wgM1 137 rfl rfl
theorem wt_138 : (Jvm.Cond.code ({ cls := "java/lang/Math", name := "min", desc := "(II)I" } : Jvm.MethodName) prog_9_method_69_code (2 : Nat) (Option.some Jvm.ClassFile.FieldType.int)) ∈ wG := wgM1 138 rfl rfl
theorem wt_139 : (Jvm.Cond.methodLink "EvenScatter$Scatter" (37 : Nat) ({ cls := "java/lang/Math", name := "max", desc := "(II)I" } : Jvm.MethodName)) ∈ wG := wgM1 139 rfl rfl
theorem wt_140 : (Jvm.Cond.static ({ cls := "java/lang/Math", name := "max", desc := "(II)I" } : Jvm.MethodName)) ∈ wG := wgM1 140 rfl rfl
theorem wt_141 : (Jvm.Cond.code ({ cls := "java/lang/Math", name := "max", desc := "(II)I" } : Jvm.MethodName) prog_9_method_65_code (2 : Nat) (Option.some Jvm.ClassFile.FieldType.int)) ∈ wG := wgM1 141 rfl rfl
theorem wt_142 : (Jvm.Cond.fieldLink "EvenScatter$Scatter" (21 : Nat) "EvenScatter$Scatter" "kind" "I") ∈ wG := wgM1 142 rfl rfl
theorem wt_143 : (Jvm.Cond.fieldLink "EvenScatter" (73 : Nat) "EvenScatter$Scatter" "kind" "I") ∈ wG := wgM1 143 rfl rfl
theorem wt_144 : (Jvm.Cond.fieldLink "EvenScatter$Scatter" (28 : Nat) "EvenScatter$Scatter" "power" "I") ∈ wG := wgM1 144 rfl rfl
theorem wt_145 : (Jvm.Cond.fieldLink "EvenScatter" (76 : Nat) "EvenScatter$Scatter" "power" "I") ∈ wG := wgM1 145 rfl rfl
theorem wt_146 : (Jvm.Cond.fieldLink "EvenScatter$Ranks" (34 : Nat) "EvenScatter$Scatter" "power" "I") ∈ wG := wgM1 146 rfl rfl
theorem wt_147 : (Jvm.Cond.fieldLink "EvenScatter$Tray" (34 : Nat) "EvenScatter$Scatter" "power" "I") ∈ wG := wgM1 147 rfl rfl
theorem wt_148 : (Jvm.Cond.fieldLink "EvenScatter$Scatter" (40 : Nat) "EvenScatter$Scatter" "count" "I") ∈ wG := wgM1 148 rfl rfl
theorem wt_149 : (Jvm.Cond.fieldLink "EvenScatter$Corners" (21 : Nat) "EvenScatter$Scatter" "count" "I") ∈ wG := wgM1 149 rfl rfl
theorem wt_150 : (Jvm.Cond.fieldLink "EvenScatter" (79 : Nat) "EvenScatter$Scatter" "count" "I") ∈ wG := wgM1 150 rfl rfl
theorem wt_151 : (Jvm.Cond.fieldLink "EvenScatter$Tray" (31 : Nat) "EvenScatter$Scatter" "count" "I") ∈ wG := wgM1 151 rfl rfl
theorem wt_152 : (Jvm.Cond.fieldLink "EvenScatter$Scatter" (25 : Nat) "EvenScatter$Scatter" "directions" "I") ∈ wG := wgM1 152 rfl rfl
theorem wt_153 : (Jvm.Cond.fieldLink "EvenScatter$Ranks" (18 : Nat) "EvenScatter$Scatter" "directions" "I") ∈ wG := wgM1 153 rfl rfl
theorem wt_154 : (Jvm.Cond.fieldLink "EvenScatter$Tray" (21 : Nat) "EvenScatter$Scatter" "directions" "I") ∈ wG := wgM1 154 rfl rfl
theorem wt_155 : (Jvm.Cond.fieldLink "EvenScatter$Corners" (30 : Nat) "EvenScatter$Scatter" "directions" "I") ∈ wG := wgM1 155 rfl rfl
theorem wt_156 : (Jvm.Cond.fieldLink "EvenScatter" (93 : Nat) "EvenScatter$Scatter" "directions" "I") ∈ wG := wgM1 156 rfl rfl
theorem wt_157 : (Jvm.Cond.fieldLink "EvenScatter$Scatter" (43 : Nat) "EvenScatter$Scatter" "turn" "I") ∈ wG := wgM1 157 rfl rfl
theorem wt_158 : (Jvm.Cond.fieldLink "EvenScatter" (128 : Nat) "EvenScatter$Scatter" "turn" "I") ∈ wG := wgM1 158 rfl rfl
theorem wt_159 : (Jvm.Cond.fieldLink "EvenScatter$Scatter" (9 : Nat) "EvenScatter$Scatter" "rows" "[I") ∈ wG := wgM1 159 rfl rfl
theorem wt_160 : (Jvm.Cond.fieldLink "EvenScatter$Scatter" (15 : Nat) "EvenScatter$Scatter" "masks" "[I") ∈ wG := wgM1 160 rfl rfl
theorem wt_161 : (Jvm.Cond.fieldLink "EvenScatter" (115 : Nat) "EvenScatter$Scatter" "masks" "[I") ∈ wG := wgM1 161 rfl rfl
theorem wt_162 : (Jvm.Cond.fieldLink "EvenScatter$Scatter" (18 : Nat) "EvenScatter$Scatter" "steps" "[I") ∈ wG := wgM1 162 rfl rfl
theorem wt_163 : (Jvm.Cond.fieldLink "EvenScatter" (118 : Nat) "EvenScatter$Scatter" "steps" "[I") ∈ wG := wgM1 163 rfl rfl
theorem wt_164 : (Jvm.Cond.fieldLink "EvenScatter$Scatter" (46 : Nat) "EvenScatter$Scatter" "parts" "[I") ∈ wG := wgM1 164 rfl rfl
theorem wt_184 : (Jvm.Cond.methodLink "EvenScatter" (61 : Nat) ({ cls := "EvenScatter", name := "keep", desc := "(LEvenScatter$Scatter;)I" } : Jvm.MethodName)) ∈ wG := wgM1 184 rfl rfl
theorem wt_186 : (Jvm.Cond.instanceMethod ({ cls := "EvenScatter", name := "keep", desc := "(LEvenScatter$Scatter;)I" } : Jvm.MethodName)) ∈ wG := wgM1 186 rfl rfl
theorem wt_187 : (Jvm.Cond.code ({ cls := "EvenScatter", name := "keep", desc := "(LEvenScatter$Scatter;)I" } : Jvm.MethodName) prog_1_method_31_code (3 : Nat) (Option.some Jvm.ClassFile.FieldType.int)) ∈ wG := wgM1 187 rfl rfl
theorem wt_188 : (Jvm.Cond.methodLink "EvenScatterLaw" (18 : Nat) ({ cls := "EvenScatter", name := "row", desc := "(IIII)I" } : Jvm.MethodName)) ∈ wG := wgM1 188 rfl rfl
theorem wt_189 : (Jvm.Cond.instanceMethod ({ cls := "EvenScatter", name := "row", desc := "(IIII)I" } : Jvm.MethodName)) ∈ wG := wgM1 189 rfl rfl
theorem wt_190 : (Jvm.Cond.selects "EvenScatter" ({ cls := "EvenScatter", name := "row", desc := "(IIII)I" } : Jvm.MethodName) ({ cls := "EvenScatter", name := "row", desc := "(IIII)I" } : Jvm.MethodName)) ∈ wG := wgM1 190 rfl rfl
theorem wt_191 : (Jvm.Cond.code ({ cls := "EvenScatter", name := "row", desc := "(IIII)I" } : Jvm.MethodName) prog_1_method_3_code (7 : Nat) (Option.some Jvm.ClassFile.FieldType.int)) ∈ wG := wgM1 191 rfl rfl
theorem wt_192 : (Jvm.Cond.methodLink "EvenScatter" (65 : Nat) ({ cls := "EvenScatter", name := "find", desc := "(I)LEvenScatter$Scatter;" } : Jvm.MethodName)) ∈ wG := wgM1 192 rfl rfl
theorem wt_194 : (Jvm.Cond.instanceMethod ({ cls := "EvenScatter", name := "find", desc := "(I)LEvenScatter$Scatter;" } : Jvm.MethodName)) ∈ wG := wgM1 194 rfl rfl
theorem wt_195 : (Jvm.Cond.code ({ cls := "EvenScatter", name := "find", desc := "(I)LEvenScatter$Scatter;" } : Jvm.MethodName) prog_1_method_30_code (2 : Nat) (Option.some (Jvm.ClassFile.FieldType.object "EvenScatter$Scatter"))) ∈ wG := wgM1 195 rfl rfl
theorem wt_196 : (Jvm.Cond.methodLink "EvenScatter" (69 : Nat) ({ cls := "EvenScatter$Scatter", name := "hasDirection", desc := "(I)Z" } : Jvm.MethodName)) ∈ wG := wgM1 196 rfl rfl
theorem wt_197 : (Jvm.Cond.instanceMethod ({ cls := "EvenScatter$Scatter", name := "hasDirection", desc := "(I)Z" } : Jvm.MethodName)) ∈ wG := wgM1 197 rfl rfl
theorem wt_198 : (Jvm.Cond.selects "EvenScatter$Scatter" ({ cls := "EvenScatter$Scatter", name := "hasDirection", desc := "(I)Z" } : Jvm.MethodName) ({ cls := "EvenScatter$Scatter", name := "hasDirection", desc := "(I)Z" } : Jvm.MethodName)) ∈ wG := wgM1 198 rfl rfl
theorem wt_199 : (Jvm.Cond.code ({ cls := "EvenScatter$Scatter", name := "hasDirection", desc := "(I)Z" } : Jvm.MethodName) prog_4_method_2_code (2 : Nat) (Option.some Jvm.ClassFile.FieldType.boolean)) ∈ wG := wgM1 199 rfl rfl
theorem wt_200 : (Jvm.Cond.methodLink "EvenScatter" (82 : Nat) ({ cls := "EvenScatter$Scatter", name := "rowAt", desc := "(II)I" } : Jvm.MethodName)) ∈ wG := wgM1 200 rfl rfl
theorem wt_201 : (Jvm.Cond.instanceMethod ({ cls := "EvenScatter$Scatter", name := "rowAt", desc := "(II)I" } : Jvm.MethodName)) ∈ wG := wgM1 201 rfl rfl
theorem wt_202 : (Jvm.Cond.selects "EvenScatter$Scatter" ({ cls := "EvenScatter$Scatter", name := "rowAt", desc := "(II)I" } : Jvm.MethodName) ({ cls := "EvenScatter$Scatter", name := "rowAt", desc := "(II)I" } : Jvm.MethodName)) ∈ wG := wgM1 202 rfl rfl
theorem wt_203 : (Jvm.Cond.code ({ cls := "EvenScatter$Scatter", name := "rowAt", desc := "(II)I" } : Jvm.MethodName) prog_4_method_5_code (3 : Nat) (Option.some Jvm.ClassFile.FieldType.int)) ∈ wG := wgM1 203 rfl rfl
theorem wt_204 : (Jvm.Cond.methodLink "EvenScatter" (85 : Nat) ({ cls := "EvenScatter$Scatter", name := "setRow", desc := "(III)V" } : Jvm.MethodName)) ∈ wG := wgM1 204 rfl rfl
theorem wt_205 : (Jvm.Cond.instanceMethod ({ cls := "EvenScatter$Scatter", name := "setRow", desc := "(III)V" } : Jvm.MethodName)) ∈ wG := wgM1 205 rfl rfl
theorem wt_206 : (Jvm.Cond.selects "EvenScatter$Scatter" ({ cls := "EvenScatter$Scatter", name := "setRow", desc := "(III)V" } : Jvm.MethodName) ({ cls := "EvenScatter$Scatter", name := "setRow", desc := "(III)V" } : Jvm.MethodName)) ∈ wG := wgM1 206 rfl rfl
theorem wt_207 : (Jvm.Cond.code ({ cls := "EvenScatter$Scatter", name := "setRow", desc := "(III)V" } : Jvm.MethodName) prog_4_method_6_code (4 : Nat) (Option.none : Option Jvm.ClassFile.FieldType)) ∈ wG := wgM1 207 rfl rfl
theorem wt_208 : (Jvm.Cond.methodLink "EvenScatter" (89 : Nat) ({ cls := "EvenScatter$Scatter", name := "fillFromRows", desc := "(I)V" } : Jvm.MethodName)) ∈ wG := wgM1 208 rfl rfl
theorem wt_209 : (Jvm.Cond.instanceMethod ({ cls := "EvenScatter$Scatter", name := "fillFromRows", desc := "(I)V" } : Jvm.MethodName)) ∈ wG := wgM1 209 rfl rfl
theorem wt_210 : (Jvm.Cond.selects "EvenScatter$Scatter" ({ cls := "EvenScatter$Scatter", name := "fillFromRows", desc := "(I)V" } : Jvm.MethodName) ({ cls := "EvenScatter$Scatter", name := "fillFromRows", desc := "(I)V" } : Jvm.MethodName)) ∈ wG := wgM1 210 rfl rfl
theorem wt_211 : (Jvm.Cond.code ({ cls := "EvenScatter$Scatter", name := "fillFromRows", desc := "(I)V" } : Jvm.MethodName) prog_4_method_9_code (7 : Nat) (Option.none : Option Jvm.ClassFile.FieldType)) ∈ wG := wgM1 211 rfl rfl
theorem wt_212 : (Jvm.Cond.methodLink "EvenScatter$Scatter" (59 : Nat) ({ cls := "EvenScatter$Scatter", name := "columnAt", desc := "(II)I" } : Jvm.MethodName)) ∈ wG := wgM1 212 rfl rfl
theorem wt_214 : (Jvm.Cond.instanceMethod ({ cls := "EvenScatter$Scatter", name := "columnAt", desc := "(II)I" } : Jvm.MethodName)) ∈ wG := wgM1 214 rfl rfl
theorem wt_215 : (Jvm.Cond.code ({ cls := "EvenScatter$Scatter", name := "columnAt", desc := "(II)I" } : Jvm.MethodName) prog_4_method_10_code (5 : Nat) (Option.some Jvm.ClassFile.FieldType.int)) ∈ wG := wgM1 215 rfl rfl
theorem wt_216 : (Jvm.Cond.methodLink "EvenScatter$Scatter" (62 : Nat) ({ cls := "EvenScatter$Scatter", name := "rowAt", desc := "(II)I" } : Jvm.MethodName)) ∈ wG := wgM1 216 rfl rfl
theorem wt_217 : (Jvm.Cond.methodLink "EvenScatterLaw" (23 : Nat) ({ cls := "EvenScatter", name := "ladder", desc := "(I)I" } : Jvm.MethodName)) ∈ wG := wgM1 217 rfl rfl
theorem wt_218 : (Jvm.Cond.instanceMethod ({ cls := "EvenScatter", name := "ladder", desc := "(I)I" } : Jvm.MethodName)) ∈ wG := wgM1 218 rfl rfl
theorem wt_219 : (Jvm.Cond.selects "EvenScatter" ({ cls := "EvenScatter", name := "ladder", desc := "(I)I" } : Jvm.MethodName) ({ cls := "EvenScatter", name := "ladder", desc := "(I)I" } : Jvm.MethodName)) ∈ wG := wgM1 219 rfl rfl
theorem wt_220 : (Jvm.Cond.code ({ cls := "EvenScatter", name := "ladder", desc := "(I)I" } : Jvm.MethodName) prog_1_method_4_code (5 : Nat) (Option.some Jvm.ClassFile.FieldType.int)) ∈ wG := wgM1 220 rfl rfl
theorem wt_221 : (Jvm.Cond.methodLink "EvenScatterLaw" (30 : Nat) ({ cls := "EvenScatter", name := "direction", desc := "(IIJ)I" } : Jvm.MethodName)) ∈ wG := wgM1 221 rfl rfl
theorem wt_222 : (Jvm.Cond.instanceMethod ({ cls := "EvenScatter", name := "direction", desc := "(IIJ)I" } : Jvm.MethodName)) ∈ wG := wgM1 222 rfl rfl
theorem wt_223 : (Jvm.Cond.selects "EvenScatter" ({ cls := "EvenScatter", name := "direction", desc := "(IIJ)I" } : Jvm.MethodName) ({ cls := "EvenScatter", name := "direction", desc := "(IIJ)I" } : Jvm.MethodName)) ∈ wG := wgM1 223 rfl rfl
theorem wt_224 : (Jvm.Cond.code ({ cls := "EvenScatter", name := "direction", desc := "(IIJ)I" } : Jvm.MethodName) prog_1_method_5_code (6 : Nat) (Option.some Jvm.ClassFile.FieldType.int)) ∈ wG := wgM1 224 rfl rfl
theorem wt_225 : (Jvm.Cond.methodLink "EvenScatter" (96 : Nat) ({ cls := "EvenScatter", name := "degree", desc := "(I)I" } : Jvm.MethodName)) ∈ wG := wgM1 225 rfl rfl
theorem wt_226 : (Jvm.Cond.static ({ cls := "EvenScatter", name := "degree", desc := "(I)I" } : Jvm.MethodName)) ∈ wG := wgM1 226 rfl rfl
theorem wt_227 : (Jvm.Cond.code ({ cls := "EvenScatter", name := "degree", desc := "(I)I" } : Jvm.MethodName) prog_1_method_41_code (3 : Nat) (Option.some Jvm.ClassFile.FieldType.int)) ∈ wG := wgM1 227 rfl rfl
theorem wt_228 : (Jvm.Cond.methodLink "EvenScatter" (99 : Nat) ({ cls := "EvenScatter", name := "firstsMayBe", desc := "(IJ)Z" } : Jvm.MethodName)) ∈ wG := wgM1 228 rfl rfl
theorem wt_229 : (Jvm.Cond.static ({ cls := "EvenScatter", name := "firstsMayBe", desc := "(IJ)Z" } : Jvm.MethodName)) ∈ wG := wgM1 229 rfl rfl
theorem wt_230 : (Jvm.Cond.code ({ cls := "EvenScatter", name := "firstsMayBe", desc := "(IJ)Z" } : Jvm.MethodName) prog_1_method_43_code (5 : Nat) (Option.some Jvm.ClassFile.FieldType.boolean)) ∈ wG := wgM1 230 rfl rfl
theorem wt_231 : (Jvm.Cond.methodLink "EvenScatter" (264 : Nat) ({ cls := "EvenScatter", name := "firstOf", desc := "(JI)I" } : Jvm.MethodName)) ∈ wG := wgM1 231 rfl rfl
theorem wt_232 : (Jvm.Cond.static ({ cls := "EvenScatter", name := "firstOf", desc := "(JI)I" } : Jvm.MethodName)) ∈ wG := wgM1 232 rfl rfl
theorem wt_233 : (Jvm.Cond.code ({ cls := "EvenScatter", name := "firstOf", desc := "(JI)I" } : Jvm.MethodName) prog_1_method_42_code (3 : Nat) (Option.some Jvm.ClassFile.FieldType.int)) ∈ wG := wgM1 233 rfl rfl
theorem wt_234 : (Jvm.Cond.constantLong "EvenScatter" (262 : Nat) (255 : Int64)) ∈ wG := wgM1 234 rfl rfl
theorem wt_235 : (Jvm.Cond.methodLink "EvenScatter" (103 : Nat) ({ cls := "EvenScatter$Scatter", name := "addRung", desc := "(IIJ)V" } : Jvm.MethodName)) ∈ wG := wgM1 235 rfl rfl
theorem wt_236 : (Jvm.Cond.instanceMethod ({ cls := "EvenScatter$Scatter", name := "addRung", desc := "(IIJ)V" } : Jvm.MethodName)) ∈ wG := wgM1 236 rfl rfl
theorem wt_237 : (Jvm.Cond.selects "EvenScatter$Scatter" ({ cls := "EvenScatter$Scatter", name := "addRung", desc := "(IIJ)V" } : Jvm.MethodName) ({ cls := "EvenScatter$Scatter", name := "addRung", desc := "(IIJ)V" } : Jvm.MethodName)) ∈ wG := wgM1 237 rfl rfl
theorem wt_238 : (Jvm.Cond.code ({ cls := "EvenScatter$Scatter", name := "addRung", desc := "(IIJ)V" } : Jvm.MethodName) prog_4_method_13_code (10 : Nat) (Option.none : Option Jvm.ClassFile.FieldType)) ∈ wG := wgM1 238 rfl rfl
theorem wt_239 : (Jvm.Cond.methodLink "EvenScatter$Scatter" (69 : Nat) ({ cls := "EvenScatter$Scatter", name := "rungNumbers", desc := "(IIJ)[I" } : Jvm.MethodName)) ∈ wG := wgM1 239 rfl rfl
theorem wt_240 : (Jvm.Cond.static ({ cls := "EvenScatter$Scatter", name := "rungNumbers", desc := "(IIJ)[I" } : Jvm.MethodName)) ∈ wG := wgM2 0 rfl rfl
theorem wt_241 : (Jvm.Cond.code ({ cls := "EvenScatter$Scatter", name := "rungNumbers", desc := "(IIJ)[I" } : Jvm.MethodName) prog_4_method_14_code (9 : Nat) (Option.some (Jvm.ClassFile.FieldType.array Jvm.ClassFile.FieldType.int))) ∈ wG := wgM2 1 rfl rfl
theorem wn_242 : (Jvm.Cond.methodLinkNest "EvenScatter$Scatter" (77 : Nat) ({ cls := "EvenScatter", name := "firstOf", desc := "(JI)I" } : Jvm.MethodName) "EvenScatter") ∈ lw_tbl := lw_m2 (List.mem_of_getElem? (i := 2) rfl)
theorem wt_243 : (Jvm.Cond.methodLink "EvenScatter$Scatter" (73 : Nat) ({ cls := "EvenScatter$Scatter", name := "setRow", desc := "(III)V" } : Jvm.MethodName)) ∈ wG := wgM2 3 rfl rfl
theorem wt_244 : (Jvm.Cond.methodLink "EvenScatter$Scatter" (55 : Nat) ({ cls := "EvenScatter$Scatter", name := "fillFromRows", desc := "(I)V" } : Jvm.MethodName)) ∈ wG := wgM2 4 rfl rfl
theorem wt_245 : (Jvm.Cond.methodLink "EvenScatterLaw" (35 : Nat) ({ cls := "EvenScatter", name := "turned", desc := "(I)I" } : Jvm.MethodName)) ∈ wG := wgM2 5 rfl rfl
theorem wt_246 : (Jvm.Cond.instanceMethod ({ cls := "EvenScatter", name := "turned", desc := "(I)I" } : Jvm.MethodName)) ∈ wG := wgM2 6 rfl rfl
theorem wt_247 : (Jvm.Cond.selects "EvenScatter" ({ cls := "EvenScatter", name := "turned", desc := "(I)I" } : Jvm.MethodName) ({ cls := "EvenScatter", name := "turned", desc := "(I)I" } : Jvm.MethodName)) ∈ wG := wgM2 7 rfl rfl
theorem wt_248 : (Jvm.Cond.code ({ cls := "EvenScatter", name := "turned", desc := "(I)I" } : Jvm.MethodName) prog_1_method_6_code (4 : Nat) (Option.some Jvm.ClassFile.FieldType.int)) ∈ wG := wgM2 8 rfl rfl
theorem wt_249 : (Jvm.Cond.methodLink "EvenScatter" (107 : Nat) ({ cls := "EvenScatter$Scatter", name := "hasRows", desc := "()Z" } : Jvm.MethodName)) ∈ wG := wgM2 9 rfl rfl
theorem wt_250 : (Jvm.Cond.instanceMethod ({ cls := "EvenScatter$Scatter", name := "hasRows", desc := "()Z" } : Jvm.MethodName)) ∈ wG := wgM2 10 rfl rfl
theorem wt_251 : (Jvm.Cond.selects "EvenScatter$Scatter" ({ cls := "EvenScatter$Scatter", name := "hasRows", desc := "()Z" } : Jvm.MethodName) ({ cls := "EvenScatter$Scatter", name := "hasRows", desc := "()Z" } : Jvm.MethodName)) ∈ wG := wgM2 11 rfl rfl
theorem wt_252 : (Jvm.Cond.code ({ cls := "EvenScatter$Scatter", name := "hasRows", desc := "()Z" } : Jvm.MethodName) prog_4_method_3_code (1 : Nat) (Option.some Jvm.ClassFile.FieldType.boolean)) ∈ wG := wgM2 12 rfl rfl
theorem wt_253 : (Jvm.Cond.methodLink "EvenScatter" (111 : Nat) ({ cls := "EvenScatter$Scatter", name := "takeRowsAndMasks", desc := "(LEvenScatter$Scatter;)V" } : Jvm.MethodName)) ∈ wG := wgM2 13 rfl rfl
theorem wt_254 : (Jvm.Cond.instanceMethod ({ cls := "EvenScatter$Scatter", name := "takeRowsAndMasks", desc := "(LEvenScatter$Scatter;)V" } : Jvm.MethodName)) ∈ wG := wgM2 14 rfl rfl
theorem wt_255 : (Jvm.Cond.selects "EvenScatter$Scatter" ({ cls := "EvenScatter$Scatter", name := "takeRowsAndMasks", desc := "(LEvenScatter$Scatter;)V" } : Jvm.MethodName) ({ cls := "EvenScatter$Scatter", name := "takeRowsAndMasks", desc := "(LEvenScatter$Scatter;)V" } : Jvm.MethodName)) ∈ wG := wgM2 15 rfl rfl
theorem wt_256 : (Jvm.Cond.code ({ cls := "EvenScatter$Scatter", name := "takeRowsAndMasks", desc := "(LEvenScatter$Scatter;)V" } : Jvm.MethodName) prog_4_method_8_code (3 : Nat) (Option.none : Option Jvm.ClassFile.FieldType)) ∈ wG := wgM2 16 rfl rfl
theorem wt_257 : (Jvm.Cond.methodLink "EvenScatter$Scatter" (49 : Nat) ({ cls := "java/lang/System", name := "arraycopy", desc := "(Ljava/lang/Object;ILjava/lang/Object;II)V" } : Jvm.MethodName)) ∈ wG := wgM2 17 rfl rfl
theorem wt_258 : (Jvm.Cond.static ({ cls := "java/lang/System", name := "arraycopy", desc := "(Ljava/lang/Object;ILjava/lang/Object;II)V" } : Jvm.MethodName)) ∈ wG := wgM2 18 rfl rfl
theorem wt_259 : (Jvm.Cond.native ({ cls := "java/lang/System", name := "arraycopy", desc := "(Ljava/lang/Object;ILjava/lang/Object;II)V" } : Jvm.MethodName)) ∈ wG := wgM2 19 rfl rfl
theorem wt_260 : (Jvm.Cond.methodLink "EvenScatterLaw" (39 : Nat) ({ cls := "EvenScatter", name := "mask", desc := "(III)I" } : Jvm.MethodName)) ∈ wG := wgM2 20 rfl rfl
theorem wt_261 : (Jvm.Cond.instanceMethod ({ cls := "EvenScatter", name := "mask", desc := "(III)I" } : Jvm.MethodName)) ∈ wG := wgM2 21 rfl rfl
theorem wt_262 : (Jvm.Cond.selects "EvenScatter" ({ cls := "EvenScatter", name := "mask", desc := "(III)I" } : Jvm.MethodName) ({ cls := "EvenScatter", name := "mask", desc := "(III)I" } : Jvm.MethodName)) ∈ wG := wgM2 22 rfl rfl
theorem wt_263 : (Jvm.Cond.code ({ cls := "EvenScatter", name := "mask", desc := "(III)I" } : Jvm.MethodName) prog_1_method_7_code (6 : Nat) (Option.some Jvm.ClassFile.FieldType.int)) ∈ wG := wgM2 23 rfl rfl
theorem wt_264 : (Jvm.Cond.methodLink "EvenScatterLaw" (44 : Nat) ({ cls := "EvenScatter", name := "grid", desc := "(II)I" } : Jvm.MethodName)) ∈ wG := wgM2 24 rfl rfl
theorem wt_265 : (Jvm.Cond.instanceMethod ({ cls := "EvenScatter", name := "grid", desc := "(II)I" } : Jvm.MethodName)) ∈ wG := wgM2 25 rfl rfl
theorem wt_266 : (Jvm.Cond.selects "EvenScatter" ({ cls := "EvenScatter", name := "grid", desc := "(II)I" } : Jvm.MethodName) ({ cls := "EvenScatter", name := "grid", desc := "(II)I" } : Jvm.MethodName)) ∈ wG := wgM2 26 rfl rfl
theorem wt_267 : (Jvm.Cond.code ({ cls := "EvenScatter", name := "grid", desc := "(II)I" } : Jvm.MethodName) prog_1_method_8_code (3 : Nat) (Option.some Jvm.ClassFile.FieldType.int)) ∈ wG := wgM2 27 rfl rfl
theorem wt_268 : (Jvm.Cond.methodLink "EvenScatterLaw" (48 : Nat) ({ cls := "EvenScatter", name := "step", desc := "(III)I" } : Jvm.MethodName)) ∈ wG := wgM2 28 rfl rfl
theorem wt_269 : (Jvm.Cond.instanceMethod ({ cls := "EvenScatter", name := "step", desc := "(III)I" } : Jvm.MethodName)) ∈ wG := wgM2 29 rfl rfl
theorem wt_270 : (Jvm.Cond.selects "EvenScatter" ({ cls := "EvenScatter", name := "step", desc := "(III)I" } : Jvm.MethodName) ({ cls := "EvenScatter", name := "step", desc := "(III)I" } : Jvm.MethodName)) ∈ wG := wgM2 30 rfl rfl
theorem wt_271 : (Jvm.Cond.code ({ cls := "EvenScatter", name := "step", desc := "(III)I" } : Jvm.MethodName) prog_1_method_9_code (6 : Nat) (Option.some Jvm.ClassFile.FieldType.int)) ∈ wG := wgM2 31 rfl rfl
theorem wt_272 : (Jvm.Cond.methodLink "EvenScatter" (121 : Nat) ({ cls := "EvenScatter$Scatter", name := "fillFromStep", desc := "(I)V" } : Jvm.MethodName)) ∈ wG := wgM2 32 rfl rfl
theorem wt_273 : (Jvm.Cond.instanceMethod ({ cls := "EvenScatter$Scatter", name := "fillFromStep", desc := "(I)V" } : Jvm.MethodName)) ∈ wG := wgM2 33 rfl rfl
theorem wt_274 : (Jvm.Cond.selects "EvenScatter$Scatter" ({ cls := "EvenScatter$Scatter", name := "fillFromStep", desc := "(I)V" } : Jvm.MethodName) ({ cls := "EvenScatter$Scatter", name := "fillFromStep", desc := "(I)V" } : Jvm.MethodName)) ∈ wG := wgM2 34 rfl rfl
theorem wt_275 : (Jvm.Cond.code ({ cls := "EvenScatter$Scatter", name := "fillFromStep", desc := "(I)V" } : Jvm.MethodName) prog_4_method_11_code (3 : Nat) (Option.none : Option Jvm.ClassFile.FieldType)) ∈ wG := wgM2 35 rfl rfl
theorem wt_276 : (Jvm.Cond.methodLink "EvenScatterLaw" (52 : Nat) ({ cls := "EvenScatter", name := "lots", desc := "(IIJ)I" } : Jvm.MethodName)) ∈ wG := wgM2 36 rfl rfl
theorem wt_277 : (Jvm.Cond.instanceMethod ({ cls := "EvenScatter", name := "lots", desc := "(IIJ)I" } : Jvm.MethodName)) ∈ wG := wgM2 37 rfl rfl
theorem wt_278 : (Jvm.Cond.selects "EvenScatter" ({ cls := "EvenScatter", name := "lots", desc := "(IIJ)I" } : Jvm.MethodName) ({ cls := "EvenScatter", name := "lots", desc := "(IIJ)I" } : Jvm.MethodName)) ∈ wG := wgM2 38 rfl rfl
theorem wt_279 : (Jvm.Cond.code ({ cls := "EvenScatter", name := "lots", desc := "(IIJ)I" } : Jvm.MethodName) prog_1_method_10_code (7 : Nat) (Option.some Jvm.ClassFile.FieldType.int)) ∈ wG := wgM2 39 rfl rfl
theorem wt_280 : (Jvm.Cond.methodLink "EvenScatter" (124 : Nat) ({ cls := "EvenScatter$Scatter", name := "fillFromSeed", desc := "(J)V" } : Jvm.MethodName)) ∈ wG := wgM2 40 rfl rfl
theorem wt_281 : (Jvm.Cond.instanceMethod ({ cls := "EvenScatter$Scatter", name := "fillFromSeed", desc := "(J)V" } : Jvm.MethodName)) ∈ wG := wgM2 41 rfl rfl
theorem wt_282 : (Jvm.Cond.selects "EvenScatter$Scatter" ({ cls := "EvenScatter$Scatter", name := "fillFromSeed", desc := "(J)V" } : Jvm.MethodName) ({ cls := "EvenScatter$Scatter", name := "fillFromSeed", desc := "(J)V" } : Jvm.MethodName)) ∈ wG := wgM2 42 rfl rfl
theorem wt_283 : (Jvm.Cond.code ({ cls := "EvenScatter$Scatter", name := "fillFromSeed", desc := "(J)V" } : Jvm.MethodName) prog_4_method_12_code (7 : Nat) (Option.none : Option Jvm.ClassFile.FieldType)) ∈ wG := wgM2 43 rfl rfl
theorem wt_284 : (Jvm.Cond.constantLong "EvenScatter$Scatter" (65 : Nat) (6364136223846793005 : Int64)) ∈ wG := wgM2 44 rfl rfl
theorem wt_285 : (Jvm.Cond.constantLong "EvenScatter$Scatter" (67 : Nat) (1442695040888963407 : Int64)) ∈ wG := wgM2 45 rfl rfl
theorem wt_286 : (Jvm.Cond.methodLink "EvenScatterLaw" (56 : Nat) ({ cls := "EvenScatter", name := "scatter", desc := "(II)I" } : Jvm.MethodName)) ∈ wG := wgM2 46 rfl rfl
theorem wt_287 : (Jvm.Cond.instanceMethod ({ cls := "EvenScatter", name := "scatter", desc := "(II)I" } : Jvm.MethodName)) ∈ wG := wgM2 47 rfl rfl
theorem wt_288 : (Jvm.Cond.selects "EvenScatter" ({ cls := "EvenScatter", name := "scatter", desc := "(II)I" } : Jvm.MethodName) ({ cls := "EvenScatter", name := "scatter", desc := "(II)I" } : Jvm.MethodName)) ∈ wG := wgM2 48 rfl rfl
theorem wt_289 : (Jvm.Cond.code ({ cls := "EvenScatter", name := "scatter", desc := "(II)I" } : Jvm.MethodName) prog_1_method_11_code (4 : Nat) (Option.some Jvm.ClassFile.FieldType.int)) ∈ wG := wgM2 49 rfl rfl
theorem wt_290 : (Jvm.Cond.methodLink "EvenScatterLaw" (60 : Nat) ({ cls := "EvenScatter", name := "part", desc := "(III)I" } : Jvm.MethodName)) ∈ wG := wgM2 50 rfl rfl
theorem wt_291 : (Jvm.Cond.instanceMethod ({ cls := "EvenScatter", name := "part", desc := "(III)I" } : Jvm.MethodName)) ∈ wG := wgM2 51 rfl rfl
theorem wt_292 : (Jvm.Cond.selects "EvenScatter" ({ cls := "EvenScatter", name := "part", desc := "(III)I" } : Jvm.MethodName) ({ cls := "EvenScatter", name := "part", desc := "(III)I" } : Jvm.MethodName)) ∈ wG := wgM2 52 rfl rfl
theorem wt_293 : (Jvm.Cond.code ({ cls := "EvenScatter", name := "part", desc := "(III)I" } : Jvm.MethodName) prog_1_method_12_code (5 : Nat) (Option.some Jvm.ClassFile.FieldType.int)) ∈ wG := wgM2 53 rfl rfl
theorem wt_294 : (Jvm.Cond.methodLink "EvenScatter" (131 : Nat) ({ cls := "EvenScatter$Scatter", name := "partAt", desc := "(II)I" } : Jvm.MethodName)) ∈ wG := wgM2 54 rfl rfl
theorem wt_295 : (Jvm.Cond.instanceMethod ({ cls := "EvenScatter$Scatter", name := "partAt", desc := "(II)I" } : Jvm.MethodName)) ∈ wG := wgM2 55 rfl rfl
theorem wt_296 : (Jvm.Cond.selects "EvenScatter$Scatter" ({ cls := "EvenScatter$Scatter", name := "partAt", desc := "(II)I" } : Jvm.MethodName) ({ cls := "EvenScatter$Scatter", name := "partAt", desc := "(II)I" } : Jvm.MethodName)) ∈ wG := wgM2 56 rfl rfl
theorem wt_297 : (Jvm.Cond.code ({ cls := "EvenScatter$Scatter", name := "partAt", desc := "(II)I" } : Jvm.MethodName) prog_4_method_4_code (3 : Nat) (Option.some Jvm.ClassFile.FieldType.int)) ∈ wG := wgM2 57 rfl rfl
theorem wt_298 : (Jvm.Cond.methodLink "EvenScatterLaw" (64 : Nat) ({ cls := "EvenScatter", name := "next", desc := "(I)I" } : Jvm.MethodName)) ∈ wG := wgM2 58 rfl rfl
theorem wt_299 : (Jvm.Cond.instanceMethod ({ cls := "EvenScatter", name := "next", desc := "(I)I" } : Jvm.MethodName)) ∈ wG := wgM2 59 rfl rfl
theorem wt_300 : (Jvm.Cond.selects "EvenScatter" ({ cls := "EvenScatter", name := "next", desc := "(I)I" } : Jvm.MethodName) ({ cls := "EvenScatter", name := "next", desc := "(I)I" } : Jvm.MethodName)) ∈ wG := wgM2 60 rfl rfl
theorem wt_301 : (Jvm.Cond.code ({ cls := "EvenScatter", name := "next", desc := "(I)I" } : Jvm.MethodName) prog_1_method_13_code (4 : Nat) (Option.some Jvm.ClassFile.FieldType.int)) ∈ wG := wgM2 61 rfl rfl
theorem wt_302 : (Jvm.Cond.constant "EvenScatter" (134 : Nat) (1000000 : Int32)) ∈ wG := wgM2 62 rfl rfl
theorem wt_303 : (Jvm.Cond.methodLink "EvenScatter" (135 : Nat) ({ cls := "EvenScatter$Scatter", name := "pointOfTurn", desc := "()I" } : Jvm.MethodName)) ∈ wG := wgM2 63 rfl rfl
theorem wt_304 : (Jvm.Cond.instanceMethod ({ cls := "EvenScatter$Scatter", name := "pointOfTurn", desc := "()I" } : Jvm.MethodName)) ∈ wG := wgM2 64 rfl rfl
theorem wt_305 : (Jvm.Cond.selects "EvenScatter$Scatter" ({ cls := "EvenScatter$Scatter", name := "pointOfTurn", desc := "()I" } : Jvm.MethodName) ({ cls := "EvenScatter$Scatter", name := "pointOfTurn", desc := "()I" } : Jvm.MethodName)) ∈ wG := wgM2 65 rfl rfl
theorem wt_306 : (Jvm.Cond.code ({ cls := "EvenScatter$Scatter", name := "pointOfTurn", desc := "()I" } : Jvm.MethodName) prog_4_method_7_code (2 : Nat) (Option.some Jvm.ClassFile.FieldType.int)) ∈ wG := wgM2 66 rfl rfl
theorem wt_307 : (Jvm.Cond.methodLink "EvenScatterLaw" (68 : Nat) ({ cls := "EvenScatter", name := "skip", desc := "(II)I" } : Jvm.MethodName)) ∈ wG := wgM2 67 rfl rfl
theorem wt_308 : (Jvm.Cond.instanceMethod ({ cls := "EvenScatter", name := "skip", desc := "(II)I" } : Jvm.MethodName)) ∈ wG := wgM2 68 rfl rfl
theorem wt_309 : (Jvm.Cond.selects "EvenScatter" ({ cls := "EvenScatter", name := "skip", desc := "(II)I" } : Jvm.MethodName) ({ cls := "EvenScatter", name := "skip", desc := "(II)I" } : Jvm.MethodName)) ∈ wG := wgM2 69 rfl rfl
theorem wt_310 : (Jvm.Cond.code ({ cls := "EvenScatter", name := "skip", desc := "(II)I" } : Jvm.MethodName) prog_1_method_14_code (5 : Nat) (Option.some Jvm.ClassFile.FieldType.int)) ∈ wG := wgM2 70 rfl rfl
theorem wt_311 : (Jvm.Cond.methodLink "EvenScatterLaw" (72 : Nat) ({ cls := "EvenScatter", name := "side", desc := "(III)I" } : Jvm.MethodName)) ∈ wG := wgM2 71 rfl rfl
theorem wt_312 : (Jvm.Cond.instanceMethod ({ cls := "EvenScatter", name := "side", desc := "(III)I" } : Jvm.MethodName)) ∈ wG := wgM2 72 rfl rfl
theorem wt_313 : (Jvm.Cond.selects "EvenScatter" ({ cls := "EvenScatter", name := "side", desc := "(III)I" } : Jvm.MethodName) ({ cls := "EvenScatter", name := "side", desc := "(III)I" } : Jvm.MethodName)) ∈ wG := wgM2 73 rfl rfl
theorem wt_314 : (Jvm.Cond.code ({ cls := "EvenScatter", name := "side", desc := "(III)I" } : Jvm.MethodName) prog_1_method_15_code (4 : Nat) (Option.some Jvm.ClassFile.FieldType.int)) ∈ wG := wgM2 74 rfl rfl
theorem wt_315 : (Jvm.Cond.methodLink "EvenScatterLaw" (76 : Nat) ({ cls := "EvenScatter", name := "mark", desc := "(II)I" } : Jvm.MethodName)) ∈ wG := wgM2 75 rfl rfl
theorem wt_316 : (Jvm.Cond.instanceMethod ({ cls := "EvenScatter", name := "mark", desc := "(II)I" } : Jvm.MethodName)) ∈ wG := wgM2 76 rfl rfl
theorem wt_317 : (Jvm.Cond.selects "EvenScatter" ({ cls := "EvenScatter", name := "mark", desc := "(II)I" } : Jvm.MethodName) ({ cls := "EvenScatter", name := "mark", desc := "(II)I" } : Jvm.MethodName)) ∈ wG := wgM2 77 rfl rfl
theorem wt_318 : (Jvm.Cond.code ({ cls := "EvenScatter", name := "mark", desc := "(II)I" } : Jvm.MethodName) prog_1_method_16_code (4 : Nat) (Option.some Jvm.ClassFile.FieldType.int)) ∈ wG := wgM2 78 rfl rfl
theorem wt_319 : (Jvm.Cond.methodLink "EvenScatterLaw" (80 : Nat) ({ cls := "EvenScatter", name := "count", desc := "(I)I" } : Jvm.MethodName)) ∈ wG := wgM2 79 rfl rfl
theorem wt_320 : (Jvm.Cond.instanceMethod ({ cls := "EvenScatter", name := "count", desc := "(I)I" } : Jvm.MethodName)) ∈ wG := wgM2 80 rfl rfl
theorem wt_321 : (Jvm.Cond.selects "EvenScatter" ({ cls := "EvenScatter", name := "count", desc := "(I)I" } : Jvm.MethodName) ({ cls := "EvenScatter", name := "count", desc := "(I)I" } : Jvm.MethodName)) ∈ wG := wgM2 81 rfl rfl
theorem wt_322 : (Jvm.Cond.code ({ cls := "EvenScatter", name := "count", desc := "(I)I" } : Jvm.MethodName) prog_1_method_17_code (5 : Nat) (Option.some Jvm.ClassFile.FieldType.int)) ∈ wG := wgM2 82 rfl rfl
theorem wt_323 : (Jvm.Cond.methodLink "EvenScatter" (148 : Nat) ({ cls := "EvenScatter$Tray", name := "boxHas", desc := "(LEvenScatter$Scatter;I)Z" } : Jvm.MethodName)) ∈ wG := wgM2 83 rfl rfl
theorem wt_324 : (Jvm.Cond.instanceMethod ({ cls := "EvenScatter$Tray", name := "boxHas", desc := "(LEvenScatter$Scatter;I)Z" } : Jvm.MethodName)) ∈ wG := wgM2 84 rfl rfl
theorem wt_325 : (Jvm.Cond.selects "EvenScatter$Tray" ({ cls := "EvenScatter$Tray", name := "boxHas", desc := "(LEvenScatter$Scatter;I)Z" } : Jvm.MethodName) ({ cls := "EvenScatter$Tray", name := "boxHas", desc := "(LEvenScatter$Scatter;I)Z" } : Jvm.MethodName)) ∈ wG := wgM2 85 rfl rfl
theorem wt_326 : (Jvm.Cond.code ({ cls := "EvenScatter$Tray", name := "boxHas", desc := "(LEvenScatter$Scatter;I)Z" } : Jvm.MethodName) prog_5_method_2_code (5 : Nat) (Option.some Jvm.ClassFile.FieldType.boolean)) ∈ wG := wgM2 86 rfl rfl
theorem wt_327 : (Jvm.Cond.methodLink "EvenScatter$Tray" (27 : Nat) ({ cls := "EvenScatter$Scatter", name := "partAt", desc := "(II)I" } : Jvm.MethodName)) ∈ wG := wgM2 87 rfl rfl
theorem wt_328 : (Jvm.Cond.methodLink "EvenScatterLaw" (84 : Nat) ({ cls := "EvenScatter", name := "back", desc := "(I)I" } : Jvm.MethodName)) ∈ wG := wgM2 88 rfl rfl
theorem wt_329 : (Jvm.Cond.instanceMethod ({ cls := "EvenScatter", name := "back", desc := "(I)I" } : Jvm.MethodName)) ∈ wG := wgM2 89 rfl rfl
theorem wt_330 : (Jvm.Cond.selects "EvenScatter" ({ cls := "EvenScatter", name := "back", desc := "(I)I" } : Jvm.MethodName) ({ cls := "EvenScatter", name := "back", desc := "(I)I" } : Jvm.MethodName)) ∈ wG := wgM2 90 rfl rfl
theorem wt_331 : (Jvm.Cond.code ({ cls := "EvenScatter", name := "back", desc := "(I)I" } : Jvm.MethodName) prog_1_method_18_code (4 : Nat) (Option.some Jvm.ClassFile.FieldType.int)) ∈ wG := wgM2 91 rfl rfl
theorem wt_332 : (Jvm.Cond.methodLink "EvenScatter" (152 : Nat) ({ cls := "EvenScatter$Tray", name := "marksAreParts", desc := "(LEvenScatter$Scatter;I)Z" } : Jvm.MethodName)) ∈ wG := wgM2 92 rfl rfl
theorem wt_333 : (Jvm.Cond.instanceMethod ({ cls := "EvenScatter$Tray", name := "marksAreParts", desc := "(LEvenScatter$Scatter;I)Z" } : Jvm.MethodName)) ∈ wG := wgM2 93 rfl rfl
theorem wt_334 : (Jvm.Cond.selects "EvenScatter$Tray" ({ cls := "EvenScatter$Tray", name := "marksAreParts", desc := "(LEvenScatter$Scatter;I)Z" } : Jvm.MethodName) ({ cls := "EvenScatter$Tray", name := "marksAreParts", desc := "(LEvenScatter$Scatter;I)Z" } : Jvm.MethodName)) ∈ wG := wgM2 94 rfl rfl
theorem wt_335 : (Jvm.Cond.code ({ cls := "EvenScatter$Tray", name := "marksAreParts", desc := "(LEvenScatter$Scatter;I)Z" } : Jvm.MethodName) prog_5_method_4_code (4 : Nat) (Option.some Jvm.ClassFile.FieldType.boolean)) ∈ wG := wgM2 95 rfl rfl
theorem wt_336 : (Jvm.Cond.methodLink "EvenScatterLaw" (88 : Nat) ({ cls := "EvenScatter", name := "even", desc := "(I)I" } : Jvm.MethodName)) ∈ wG := wgM2 96 rfl rfl
theorem wt_337 : (Jvm.Cond.instanceMethod ({ cls := "EvenScatter", name := "even", desc := "(I)I" } : Jvm.MethodName)) ∈ wG := wgM2 97 rfl rfl
theorem wt_338 : (Jvm.Cond.selects "EvenScatter" ({ cls := "EvenScatter", name := "even", desc := "(I)I" } : Jvm.MethodName) ({ cls := "EvenScatter", name := "even", desc := "(I)I" } : Jvm.MethodName)) ∈ wG := wgM2 98 rfl rfl
theorem wt_339 : (Jvm.Cond.code ({ cls := "EvenScatter", name := "even", desc := "(I)I" } : Jvm.MethodName) prog_1_method_19_code (4 : Nat) (Option.some Jvm.ClassFile.FieldType.int)) ∈ wG := wgM2 99 rfl rfl
theorem wt_340 : (Jvm.Cond.methodLink "EvenScatter" (155 : Nat) ({ cls := "EvenScatter", name := "shapeFault", desc := "(LEvenScatter$Scatter;)I" } : Jvm.MethodName)) ∈ wG := wgM2 100 rfl rfl
theorem wt_342 : (Jvm.Cond.instanceMethod ({ cls := "EvenScatter", name := "shapeFault", desc := "(LEvenScatter$Scatter;)I" } : Jvm.MethodName)) ∈ wG := wgM2 102 rfl rfl
theorem wt_343 : (Jvm.Cond.code ({ cls := "EvenScatter", name := "shapeFault", desc := "(LEvenScatter$Scatter;)I" } : Jvm.MethodName) prog_1_method_35_code (2 : Nat) (Option.some Jvm.ClassFile.FieldType.int)) ∈ wG := wgM2 103 rfl rfl
theorem wt_344 : (Jvm.Cond.methodLink "EvenScatter" (223 : Nat) ({ cls := "EvenScatter$Tray", name := "marksMayBe", desc := "(LEvenScatter$Scatter;I)Z" } : Jvm.MethodName)) ∈ wG := wgM2 104 rfl rfl
theorem wt_345 : (Jvm.Cond.instanceMethod ({ cls := "EvenScatter$Tray", name := "marksMayBe", desc := "(LEvenScatter$Scatter;I)Z" } : Jvm.MethodName)) ∈ wG := wgM2 105 rfl rfl
theorem wt_346 : (Jvm.Cond.selects "EvenScatter$Tray" ({ cls := "EvenScatter$Tray", name := "marksMayBe", desc := "(LEvenScatter$Scatter;I)Z" } : Jvm.MethodName) ({ cls := "EvenScatter$Tray", name := "marksMayBe", desc := "(LEvenScatter$Scatter;I)Z" } : Jvm.MethodName)) ∈ wG := wgM2 106 rfl rfl
theorem wt_347 : (Jvm.Cond.code ({ cls := "EvenScatter$Tray", name := "marksMayBe", desc := "(LEvenScatter$Scatter;I)Z" } : Jvm.MethodName) prog_5_method_6_code (4 : Nat) (Option.some Jvm.ClassFile.FieldType.boolean)) ∈ wG := wgM2 107 rfl rfl
theorem wt_348 : (Jvm.Cond.methodLink "EvenScatter" (241 : Nat) ({ cls := "EvenScatter$Tray", name := "markSum", desc := "(LEvenScatter$Scatter;)I" } : Jvm.MethodName)) ∈ wG := wgM2 108 rfl rfl
theorem wt_349 : (Jvm.Cond.instanceMethod ({ cls := "EvenScatter$Tray", name := "markSum", desc := "(LEvenScatter$Scatter;)I" } : Jvm.MethodName)) ∈ wG := wgM2 109 rfl rfl
theorem wt_350 : (Jvm.Cond.selects "EvenScatter$Tray" ({ cls := "EvenScatter$Tray", name := "markSum", desc := "(LEvenScatter$Scatter;)I" } : Jvm.MethodName) ({ cls := "EvenScatter$Tray", name := "markSum", desc := "(LEvenScatter$Scatter;)I" } : Jvm.MethodName)) ∈ wG := wgM2 110 rfl rfl
theorem wt_351 : (Jvm.Cond.code ({ cls := "EvenScatter$Tray", name := "markSum", desc := "(LEvenScatter$Scatter;)I" } : Jvm.MethodName) prog_5_method_7_code (4 : Nat) (Option.some Jvm.ClassFile.FieldType.int)) ∈ wG := wgM2 111 rfl rfl
theorem wt_352 : (Jvm.Cond.methodLink "EvenScatter" (158 : Nat) ({ cls := "EvenScatter", name := "firstUneven", desc := "(LEvenScatter$Scatter;)I" } : Jvm.MethodName)) ∈ wG := wgM2 112 rfl rfl
theorem wt_354 : (Jvm.Cond.instanceMethod ({ cls := "EvenScatter", name := "firstUneven", desc := "(LEvenScatter$Scatter;)I" } : Jvm.MethodName)) ∈ wG := wgM2 114 rfl rfl
theorem wt_355 : (Jvm.Cond.code ({ cls := "EvenScatter", name := "firstUneven", desc := "(LEvenScatter$Scatter;)I" } : Jvm.MethodName) prog_1_method_36_code (6 : Nat) (Option.some Jvm.ClassFile.FieldType.int)) ∈ wG := wgM2 115 rfl rfl
theorem wt_356 : (Jvm.Cond.methodLink "EvenScatter" (250 : Nat) ({ cls := "java/util/Arrays", name := "fill", desc := "([IIII)V" } : Jvm.MethodName)) ∈ wG := wgM2 116 rfl rfl
theorem wt_357 : (Jvm.Cond.static ({ cls := "java/util/Arrays", name := "fill", desc := "([IIII)V" } : Jvm.MethodName)) ∈ wG := wgM2 117 rfl rfl
theorem wt_358 : (Jvm.Cond.code ({ cls := "java/util/Arrays", name := "fill", desc := "([IIII)V" } : Jvm.MethodName) prog_11_method_104_code (5 : Nat) (Option.none : Option Jvm.ClassFile.FieldType)) ∈ wG := wgM2 118 rfl rfl
theorem wt_359 : (Jvm.Cond.methodLink "java/util/Arrays" (13 : Nat) ({ cls := "java/util/Arrays", name := "rangeCheck", desc := "(III)V" } : Jvm.MethodName)) ∈ wG := wgM2 119 rfl rfl
theorem wt_360 : (Jvm.Cond.static ({ cls := "java/util/Arrays", name := "rangeCheck", desc := "(III)V" } : Jvm.MethodName)) ∈ wG := wgM2 120 rfl rfl
theorem wt_361 : (Jvm.Cond.code ({ cls := "java/util/Arrays", name := "rangeCheck", desc := "(III)V" } : Jvm.MethodName) prog_11_method_30_code (3 : Nat) (Option.none : Option Jvm.ClassFile.FieldType)) ∈ wG := wgM2 121 rfl rfl
theorem wt_362 : (Jvm.Cond.methodLink "EvenScatter" (256 : Nat) ({ cls := "EvenScatter$Tray", name := "boxOf", desc := "(LEvenScatter$Scatter;I)I" } : Jvm.MethodName)) ∈ wG := wgM2 122 rfl rfl
theorem wt_363 : (Jvm.Cond.instanceMethod ({ cls := "EvenScatter$Tray", name := "boxOf", desc := "(LEvenScatter$Scatter;I)I" } : Jvm.MethodName)) ∈ wG := wgM2 123 rfl rfl
theorem wt_364 : (Jvm.Cond.selects "EvenScatter$Tray" ({ cls := "EvenScatter$Tray", name := "boxOf", desc := "(LEvenScatter$Scatter;I)I" } : Jvm.MethodName) ({ cls := "EvenScatter$Tray", name := "boxOf", desc := "(LEvenScatter$Scatter;I)I" } : Jvm.MethodName)) ∈ wG := wgM2 124 rfl rfl
theorem wt_365 : (Jvm.Cond.code ({ cls := "EvenScatter$Tray", name := "boxOf", desc := "(LEvenScatter$Scatter;I)I" } : Jvm.MethodName) prog_5_method_8_code (6 : Nat) (Option.some Jvm.ClassFile.FieldType.int)) ∈ wG := wgM2 125 rfl rfl
theorem wt_366 : (Jvm.Cond.methodLink "EvenScatterLaw" (92 : Nat) ({ cls := "EvenScatter", name := "why", desc := "(I)I" } : Jvm.MethodName)) ∈ wG := wgM2 126 rfl rfl
theorem wt_367 : (Jvm.Cond.instanceMethod ({ cls := "EvenScatter", name := "why", desc := "(I)I" } : Jvm.MethodName)) ∈ wG := wgM2 127 rfl rfl
theorem wt_368 : (Jvm.Cond.selects "EvenScatter" ({ cls := "EvenScatter", name := "why", desc := "(I)I" } : Jvm.MethodName) ({ cls := "EvenScatter", name := "why", desc := "(I)I" } : Jvm.MethodName)) ∈ wG := wgM2 128 rfl rfl
theorem wt_369 : (Jvm.Cond.code ({ cls := "EvenScatter", name := "why", desc := "(I)I" } : Jvm.MethodName) prog_1_method_20_code (3 : Nat) (Option.some Jvm.ClassFile.FieldType.int)) ∈ wG := wgM2 129 rfl rfl
theorem wt_370 : (Jvm.Cond.methodLink "EvenScatterLaw" (96 : Nat) ({ cls := "EvenScatter", name := "grade", desc := "(I)I" } : Jvm.MethodName)) ∈ wG := wgM2 130 rfl rfl
theorem wt_371 : (Jvm.Cond.instanceMethod ({ cls := "EvenScatter", name := "grade", desc := "(I)I" } : Jvm.MethodName)) ∈ wG := wgM2 131 rfl rfl
theorem wt_372 : (Jvm.Cond.selects "EvenScatter" ({ cls := "EvenScatter", name := "grade", desc := "(I)I" } : Jvm.MethodName) ({ cls := "EvenScatter", name := "grade", desc := "(I)I" } : Jvm.MethodName)) ∈ wG := wgM2 132 rfl rfl
theorem wt_373 : (Jvm.Cond.code ({ cls := "EvenScatter", name := "grade", desc := "(I)I" } : Jvm.MethodName) prog_1_method_21_code (3 : Nat) (Option.some Jvm.ClassFile.FieldType.int)) ∈ wG := wgM2 133 rfl rfl
theorem wt_374 : (Jvm.Cond.methodLink "EvenScatter" (161 : Nat) ({ cls := "EvenScatter$Ranks", name := "gradeOfAll", desc := "(LEvenScatter$Scatter;)I" } : Jvm.MethodName)) ∈ wG := wgM2 134 rfl rfl
theorem wt_375 : (Jvm.Cond.instanceMethod ({ cls := "EvenScatter$Ranks", name := "gradeOfAll", desc := "(LEvenScatter$Scatter;)I" } : Jvm.MethodName)) ∈ wG := wgM2 135 rfl rfl
theorem wt_376 : (Jvm.Cond.selects "EvenScatter$Ranks" ({ cls := "EvenScatter$Ranks", name := "gradeOfAll", desc := "(LEvenScatter$Scatter;)I" } : Jvm.MethodName) ({ cls := "EvenScatter$Ranks", name := "gradeOfAll", desc := "(LEvenScatter$Scatter;)I" } : Jvm.MethodName)) ∈ wG := wgM2 136 rfl rfl
theorem wt_377 : (Jvm.Cond.code ({ cls := "EvenScatter$Ranks", name := "gradeOfAll", desc := "(LEvenScatter$Scatter;)I" } : Jvm.MethodName) prog_3_method_2_code (3 : Nat) (Option.some Jvm.ClassFile.FieldType.int)) ∈ wG := wgM2 137 rfl rfl
theorem wt_378 : (Jvm.Cond.methodLink "EvenScatter$Ranks" (27 : Nat) ({ cls := "EvenScatter$Ranks", name := "gradeOfChosen", desc := "(LEvenScatter$Scatter;)I" } : Jvm.MethodName)) ∈ wG := wgM2 138 rfl rfl
theorem wt_380 : (Jvm.Cond.instanceMethod ({ cls := "EvenScatter$Ranks", name := "gradeOfChosen", desc := "(LEvenScatter$Scatter;)I" } : Jvm.MethodName)) ∈ wG := wgM2 140 rfl rfl
theorem wt_381 : (Jvm.Cond.code ({ cls := "EvenScatter$Ranks", name := "gradeOfChosen", desc := "(LEvenScatter$Scatter;)I" } : Jvm.MethodName) prog_3_method_4_code (2 : Nat) (Option.some Jvm.ClassFile.FieldType.int)) ∈ wG := wgM2 141 rfl rfl
theorem wt_382 : (Jvm.Cond.methodLink "EvenScatter$Ranks" (40 : Nat) ({ cls := "EvenScatter$Ranks", name := "walk", desc := "(LEvenScatter$Scatter;I)V" } : Jvm.MethodName)) ∈ wG := wgM2 142 rfl rfl
theorem wt_384 : (Jvm.Cond.instanceMethod ({ cls := "EvenScatter$Ranks", name := "walk", desc := "(LEvenScatter$Scatter;I)V" } : Jvm.MethodName)) ∈ wG := wgM2 144 rfl rfl
theorem wt_385 : (Jvm.Cond.code ({ cls := "EvenScatter$Ranks", name := "walk", desc := "(LEvenScatter$Scatter;I)V" } : Jvm.MethodName) prog_3_method_5_code (5 : Nat) (Option.none : Option Jvm.ClassFile.FieldType)) ∈ wG := wgM2 145 rfl rfl
theorem wt_386 : (Jvm.Cond.methodLink "EvenScatter$Ranks" (44 : Nat) ({ cls := "EvenScatter$Scatter", name := "rowAt", desc := "(II)I" } : Jvm.MethodName)) ∈ wG := wgM2 146 rfl rfl
theorem wt_387 : (Jvm.Cond.methodLink "EvenScatter$Ranks" (48 : Nat) ({ cls := "EvenScatter$Ranks", name := "keepIfIndependent", desc := "(I)Z" } : Jvm.MethodName)) ∈ wG := wgM2 147 rfl rfl
theorem wt_389 : (Jvm.Cond.instanceMethod ({ cls := "EvenScatter$Ranks", name := "keepIfIndependent", desc := "(I)Z" } : Jvm.MethodName)) ∈ wG := wgM2 149 rfl rfl
theorem wt_390 : (Jvm.Cond.code ({ cls := "EvenScatter$Ranks", name := "keepIfIndependent", desc := "(I)Z" } : Jvm.MethodName) prog_3_method_6_code (4 : Nat) (Option.some Jvm.ClassFile.FieldType.boolean)) ∈ wG := wgM2 150 rfl rfl
theorem wt_391 : (Jvm.Cond.methodLink "EvenScatter$Ranks" (52 : Nat) ({ cls := "java/lang/Math", name := "min", desc := "(II)I" } : Jvm.MethodName)) ∈ wG := wgM2 151 rfl rfl
theorem wt_392 : (Jvm.Cond.methodLink "EvenScatterLaw" (100 : Nat) ({ cls := "EvenScatter", name := "pair", desc := "(III)I" } : Jvm.MethodName)) ∈ wG := wgM2 152 rfl rfl
theorem wt_393 : (Jvm.Cond.instanceMethod ({ cls := "EvenScatter", name := "pair", desc := "(III)I" } : Jvm.MethodName)) ∈ wG := wgM2 153 rfl rfl
theorem wt_394 : (Jvm.Cond.selects "EvenScatter" ({ cls := "EvenScatter", name := "pair", desc := "(III)I" } : Jvm.MethodName) ({ cls := "EvenScatter", name := "pair", desc := "(III)I" } : Jvm.MethodName)) ∈ wG := wgM2 154 rfl rfl
theorem wt_395 : (Jvm.Cond.code ({ cls := "EvenScatter", name := "pair", desc := "(III)I" } : Jvm.MethodName) prog_1_method_22_code (5 : Nat) (Option.some Jvm.ClassFile.FieldType.int)) ∈ wG := wgM2 155 rfl rfl
theorem wt_396 : (Jvm.Cond.methodLink "EvenScatter" (164 : Nat) ({ cls := "EvenScatter$Ranks", name := "gradeOfTwo", desc := "(LEvenScatter$Scatter;II)I" } : Jvm.MethodName)) ∈ wG := wgM2 156 rfl rfl
theorem wt_397 : (Jvm.Cond.instanceMethod ({ cls := "EvenScatter$Ranks", name := "gradeOfTwo", desc := "(LEvenScatter$Scatter;II)I" } : Jvm.MethodName)) ∈ wG := wgM2 157 rfl rfl
theorem wt_398 : (Jvm.Cond.selects "EvenScatter$Ranks" ({ cls := "EvenScatter$Ranks", name := "gradeOfTwo", desc := "(LEvenScatter$Scatter;II)I" } : Jvm.MethodName) ({ cls := "EvenScatter$Ranks", name := "gradeOfTwo", desc := "(LEvenScatter$Scatter;II)I" } : Jvm.MethodName)) ∈ wG := wgM2 158 rfl rfl
theorem wt_399 : (Jvm.Cond.code ({ cls := "EvenScatter$Ranks", name := "gradeOfTwo", desc := "(LEvenScatter$Scatter;II)I" } : Jvm.MethodName) prog_3_method_3_code (4 : Nat) (Option.some Jvm.ClassFile.FieldType.int)) ∈ wG := wgM2 159 rfl rfl
theorem wt_400 : (Jvm.Cond.methodLink "EvenScatterLaw" (104 : Nat) ({ cls := "EvenScatter", name := "gap", desc := "(IZI)J" } : Jvm.MethodName)) ∈ wG := wgM2 160 rfl rfl
theorem wt_401 : (Jvm.Cond.instanceMethod ({ cls := "EvenScatter", name := "gap", desc := "(IZI)J" } : Jvm.MethodName)) ∈ wG := wgM2 161 rfl rfl
theorem wt_402 : (Jvm.Cond.selects "EvenScatter" ({ cls := "EvenScatter", name := "gap", desc := "(IZI)J" } : Jvm.MethodName) ({ cls := "EvenScatter", name := "gap", desc := "(IZI)J" } : Jvm.MethodName)) ∈ wG := wgM2 162 rfl rfl
theorem wt_403 : (Jvm.Cond.code ({ cls := "EvenScatter", name := "gap", desc := "(IZI)J" } : Jvm.MethodName) prog_1_method_23_code (13 : Nat) (Option.some Jvm.ClassFile.FieldType.long)) ∈ wG := wgM2 163 rfl rfl
theorem wt_404 : (Jvm.Cond.methodLink "EvenScatter" (168 : Nat) ({ cls := "EvenScatter", name := "refuseLong", desc := "(I)J" } : Jvm.MethodName)) ∈ wG := wgM2 164 rfl rfl
theorem wt_406 : (Jvm.Cond.instanceMethod ({ cls := "EvenScatter", name := "refuseLong", desc := "(I)J" } : Jvm.MethodName)) ∈ wG := wgM2 166 rfl rfl
theorem wt_407 : (Jvm.Cond.code ({ cls := "EvenScatter", name := "refuseLong", desc := "(I)J" } : Jvm.MethodName) prog_1_method_33_code (2 : Nat) (Option.some Jvm.ClassFile.FieldType.long)) ∈ wG := wgM2 167 rfl rfl
theorem wt_408 : (Jvm.Cond.constantLong "EvenScatter" (248 : Nat) (-1000 : Int64)) ∈ wG := wgM2 168 rfl rfl
theorem wt_409 : (Jvm.Cond.methodLink "EvenScatter" (172 : Nat) ({ cls := "EvenScatter$Tray", name := "highsMayBe", desc := "(LEvenScatter$Scatter;)Z" } : Jvm.MethodName)) ∈ wG := wgM2 169 rfl rfl
theorem wt_410 : (Jvm.Cond.instanceMethod ({ cls := "EvenScatter$Tray", name := "highsMayBe", desc := "(LEvenScatter$Scatter;)Z" } : Jvm.MethodName)) ∈ wG := wgM2 170 rfl rfl
theorem wt_411 : (Jvm.Cond.selects "EvenScatter$Tray" ({ cls := "EvenScatter$Tray", name := "highsMayBe", desc := "(LEvenScatter$Scatter;)Z" } : Jvm.MethodName) ({ cls := "EvenScatter$Tray", name := "highsMayBe", desc := "(LEvenScatter$Scatter;)Z" } : Jvm.MethodName)) ∈ wG := wgM2 171 rfl rfl
theorem wt_412 : (Jvm.Cond.code ({ cls := "EvenScatter$Tray", name := "highsMayBe", desc := "(LEvenScatter$Scatter;)Z" } : Jvm.MethodName) prog_5_method_5_code (3 : Nat) (Option.some Jvm.ClassFile.FieldType.boolean)) ∈ wG := wgM2 172 rfl rfl
theorem wt_413 : (Jvm.Cond.methodLink "EvenScatter" (176 : Nat) ({ cls := "EvenScatter$Tray", name := "cornerHas", desc := "(LEvenScatter$Scatter;IZ)Z" } : Jvm.MethodName)) ∈ wG := wgM2 173 rfl rfl
theorem wt_414 : (Jvm.Cond.instanceMethod ({ cls := "EvenScatter$Tray", name := "cornerHas", desc := "(LEvenScatter$Scatter;IZ)Z" } : Jvm.MethodName)) ∈ wG := wgM2 174 rfl rfl
theorem wt_415 : (Jvm.Cond.selects "EvenScatter$Tray" ({ cls := "EvenScatter$Tray", name := "cornerHas", desc := "(LEvenScatter$Scatter;IZ)Z" } : Jvm.MethodName) ({ cls := "EvenScatter$Tray", name := "cornerHas", desc := "(LEvenScatter$Scatter;IZ)Z" } : Jvm.MethodName)) ∈ wG := wgM2 175 rfl rfl
theorem wt_416 : (Jvm.Cond.code ({ cls := "EvenScatter$Tray", name := "cornerHas", desc := "(LEvenScatter$Scatter;IZ)Z" } : Jvm.MethodName) prog_5_method_3_code (6 : Nat) (Option.some Jvm.ClassFile.FieldType.boolean)) ∈ wG := wgM2 176 rfl rfl
theorem wt_417 : (Jvm.Cond.methodLink "EvenScatter" (180 : Nat) ({ cls := "EvenScatter", name := "powerOf", desc := "(JI)J" } : Jvm.MethodName)) ∈ wG := wgM2 177 rfl rfl
theorem wt_418 : (Jvm.Cond.static ({ cls := "EvenScatter", name := "powerOf", desc := "(JI)J" } : Jvm.MethodName)) ∈ wG := wgM2 178 rfl rfl
theorem wt_419 : (Jvm.Cond.code ({ cls := "EvenScatter", name := "powerOf", desc := "(JI)J" } : Jvm.MethodName) prog_1_method_44_code (6 : Nat) (Option.some Jvm.ClassFile.FieldType.long)) ∈ wG := wgM2 179 rfl rfl
theorem wt_420 : (Jvm.Cond.methodLink "EvenScatter" (184 : Nat) ({ cls := "java/lang/Math", name := "abs", desc := "(J)J" } : Jvm.MethodName)) ∈ wG := wgM2 180 rfl rfl
theorem wt_421 : (Jvm.Cond.static ({ cls := "java/lang/Math", name := "abs", desc := "(J)J" } : Jvm.MethodName)) ∈ wG := wgM2 181 rfl rfl
theorem wt_422 : (Jvm.Cond.code ({ cls := "java/lang/Math", name := "abs", desc := "(J)J" } : Jvm.MethodName) prog_9_method_61_code (2 : Nat) (Option.some Jvm.ClassFile.FieldType.long)) ∈ wG := wgM2 182 rfl rfl
theorem wt_423 : (Jvm.Cond.methodLink "EvenScatter" (190 : Nat) ({ cls := "EvenScatter", name := "fraction", desc := "(JJZ)J" } : Jvm.MethodName)) ∈ wG := wgM2 183 rfl rfl
theorem wt_424 : (Jvm.Cond.static ({ cls := "EvenScatter", name := "fraction", desc := "(JJZ)J" } : Jvm.MethodName)) ∈ wG := wgM2 184 rfl rfl
theorem wt_425 : (Jvm.Cond.code ({ cls := "EvenScatter", name := "fraction", desc := "(JJZ)J" } : Jvm.MethodName) prog_1_method_45_code (9 : Nat) (Option.some Jvm.ClassFile.FieldType.long)) ∈ wG := wgM2 185 rfl rfl
theorem wt_426 : (Jvm.Cond.methodLink "EvenScatter" (268 : Nat) ({ cls := "EvenScatter", name := "commonFactor", desc := "(JJ)J" } : Jvm.MethodName)) ∈ wG := wgM2 186 rfl rfl
theorem wt_427 : (Jvm.Cond.static ({ cls := "EvenScatter", name := "commonFactor", desc := "(JJ)J" } : Jvm.MethodName)) ∈ wG := wgM2 187 rfl rfl
theorem wt_428 : (Jvm.Cond.code ({ cls := "EvenScatter", name := "commonFactor", desc := "(JJ)J" } : Jvm.MethodName) prog_1_method_46_code (11 : Nat) (Option.some Jvm.ClassFile.FieldType.long)) ∈ wG := wgM2 188 rfl rfl
theorem wt_429 : (Jvm.Cond.methodLink "EvenScatterLaw" (109 : Nat) ({ cls := "EvenScatter", name := "worst", desc := "(II)J" } : Jvm.MethodName)) ∈ wG := wgM2 189 rfl rfl
theorem wt_430 : (Jvm.Cond.instanceMethod ({ cls := "EvenScatter", name := "worst", desc := "(II)J" } : Jvm.MethodName)) ∈ wG := wgM2 190 rfl rfl
theorem wt_431 : (Jvm.Cond.selects "EvenScatter" ({ cls := "EvenScatter", name := "worst", desc := "(II)J" } : Jvm.MethodName) ({ cls := "EvenScatter", name := "worst", desc := "(II)J" } : Jvm.MethodName)) ∈ wG := wgM2 191 rfl rfl
theorem wt_432 : (Jvm.Cond.code ({ cls := "EvenScatter", name := "worst", desc := "(II)J" } : Jvm.MethodName) prog_1_method_24_code (6 : Nat) (Option.some Jvm.ClassFile.FieldType.long)) ∈ wG := wgM2 192 rfl rfl
theorem wt_433 : (Jvm.Cond.methodLink "EvenScatter" (194 : Nat) ({ cls := "EvenScatter", name := "mayBeMeasured", desc := "(LEvenScatter$Scatter;)Z" } : Jvm.MethodName)) ∈ wG := wgM2 193 rfl rfl
theorem wt_434 : (Jvm.Cond.static ({ cls := "EvenScatter", name := "mayBeMeasured", desc := "(LEvenScatter$Scatter;)Z" } : Jvm.MethodName)) ∈ wG := wgM2 194 rfl rfl
theorem wt_435 : (Jvm.Cond.code ({ cls := "EvenScatter", name := "mayBeMeasured", desc := "(LEvenScatter$Scatter;)Z" } : Jvm.MethodName) prog_1_method_37_code (1 : Nat) (Option.some Jvm.ClassFile.FieldType.boolean)) ∈ wG := wgM2 195 rfl rfl
theorem wt_436 : (Jvm.Cond.methodLink "EvenScatter" (197 : Nat) ({ cls := "EvenScatter$Corners", name := "search", desc := "(LEvenScatter$Scatter;[I)V" } : Jvm.MethodName)) ∈ wG := wgM2 196 rfl rfl
theorem wt_437 : (Jvm.Cond.instanceMethod ({ cls := "EvenScatter$Corners", name := "search", desc := "(LEvenScatter$Scatter;[I)V" } : Jvm.MethodName)) ∈ wG := wgM2 197 rfl rfl
theorem wt_438 : (Jvm.Cond.selects "EvenScatter$Corners" ({ cls := "EvenScatter$Corners", name := "search", desc := "(LEvenScatter$Scatter;[I)V" } : Jvm.MethodName) ({ cls := "EvenScatter$Corners", name := "search", desc := "(LEvenScatter$Scatter;[I)V" } : Jvm.MethodName)) ∈ wG := wgM2 198 rfl rfl
theorem wt_439 : (Jvm.Cond.code ({ cls := "EvenScatter$Corners", name := "search", desc := "(LEvenScatter$Scatter;[I)V" } : Jvm.MethodName) prog_2_method_2_code (9 : Nat) (Option.none : Option Jvm.ClassFile.FieldType)) ∈ wG := wgM2 199 rfl rfl
theorem wn_440 : (Jvm.Cond.methodLinkNest "EvenScatter$Corners" (33 : Nat) ({ cls := "EvenScatter", name := "powerOf", desc := "(JI)J" } : Jvm.MethodName) "EvenScatter") ∈ lw_tbl := lw_m2 (List.mem_of_getElem? (i := 200) rfl)
theorem wt_441 : (Jvm.Cond.constantLong "EvenScatter$Corners" (42 : Nat) (-9223372036854775808 : Int64)) ∈ wG := wgM2 201 rfl rfl
theorem wt_442 : (Jvm.Cond.methodLink "EvenScatter$Corners" (48 : Nat) ({ cls := "EvenScatter$Corners", name := "noteParts", desc := "(LEvenScatter$Scatter;)V" } : Jvm.MethodName)) ∈ wG := wgM2 202 rfl rfl
theorem wt_444 : (Jvm.Cond.instanceMethod ({ cls := "EvenScatter$Corners", name := "noteParts", desc := "(LEvenScatter$Scatter;)V" } : Jvm.MethodName)) ∈ wG := wgM2 204 rfl rfl
theorem wt_445 : (Jvm.Cond.code ({ cls := "EvenScatter$Corners", name := "noteParts", desc := "(LEvenScatter$Scatter;)V" } : Jvm.MethodName) prog_2_method_4_code (4 : Nat) (Option.none : Option Jvm.ClassFile.FieldType)) ∈ wG := wgM2 205 rfl rfl
theorem wt_446 : (Jvm.Cond.methodLink "EvenScatter$Corners" (86 : Nat) ({ cls := "java/util/Arrays", name := "fill", desc := "([II)V" } : Jvm.MethodName)) ∈ wG := wgM2 206 rfl rfl
theorem wt_447 : (Jvm.Cond.static ({ cls := "java/util/Arrays", name := "fill", desc := "([II)V" } : Jvm.MethodName)) ∈ wG := wgM2 207 rfl rfl
theorem wt_448 : (Jvm.Cond.code ({ cls := "java/util/Arrays", name := "fill", desc := "([II)V" } : Jvm.MethodName) prog_11_method_103_code (4 : Nat) (Option.none : Option Jvm.ClassFile.FieldType)) ∈ wG := wgM2 208 rfl rfl
theorem wt_449 : (Jvm.Cond.methodLink "EvenScatter$Corners" (92 : Nat) ({ cls := "EvenScatter$Scatter", name := "partAt", desc := "(II)I" } : Jvm.MethodName)) ∈ wG := wgM2 209 rfl rfl
theorem wt_450 : (Jvm.Cond.methodLink "EvenScatter$Corners" (52 : Nat) ({ cls := "EvenScatter$Corners", name := "countBelow", desc := "(LEvenScatter$Scatter;[I)V" } : Jvm.MethodName)) ∈ wG := wgM2 210 rfl rfl
theorem wt_452 : (Jvm.Cond.instanceMethod ({ cls := "EvenScatter$Corners", name := "countBelow", desc := "(LEvenScatter$Scatter;[I)V" } : Jvm.MethodName)) ∈ wG := wgM2 212 rfl rfl
theorem wt_453 : (Jvm.Cond.code ({ cls := "EvenScatter$Corners", name := "countBelow", desc := "(LEvenScatter$Scatter;[I)V" } : Jvm.MethodName) prog_2_method_5_code (6 : Nat) (Option.none : Option Jvm.ClassFile.FieldType)) ∈ wG := wgM2 213 rfl rfl
theorem wt_454 : (Jvm.Cond.methodLink "EvenScatter$Corners" (96 : Nat) ({ cls := "java/util/Arrays", name := "fill", desc := "([IIII)V" } : Jvm.MethodName)) ∈ wG := wgM2 214 rfl rfl
theorem wt_455 : (Jvm.Cond.methodLink "EvenScatter$Corners" (56 : Nat) ({ cls := "EvenScatter$Corners", name := "diagonalOf", desc := "(LEvenScatter$Scatter;)I" } : Jvm.MethodName)) ∈ wG := wgM2 215 rfl rfl
theorem wt_457 : (Jvm.Cond.instanceMethod ({ cls := "EvenScatter$Corners", name := "diagonalOf", desc := "(LEvenScatter$Scatter;)I" } : Jvm.MethodName)) ∈ wG := wgM2 217 rfl rfl
theorem wt_458 : (Jvm.Cond.code ({ cls := "EvenScatter$Corners", name := "diagonalOf", desc := "(LEvenScatter$Scatter;)I" } : Jvm.MethodName) prog_2_method_6_code (4 : Nat) (Option.some Jvm.ClassFile.FieldType.int)) ∈ wG := wgM2 218 rfl rfl
theorem wt_459 : (Jvm.Cond.methodLink "EvenScatter$Corners" (60 : Nat) ({ cls := "EvenScatter$Corners", name := "setHighs", desc := "(LEvenScatter$Scatter;I)V" } : Jvm.MethodName)) ∈ wG := wgM2 219 rfl rfl
theorem wt_461 : (Jvm.Cond.instanceMethod ({ cls := "EvenScatter$Corners", name := "setHighs", desc := "(LEvenScatter$Scatter;I)V" } : Jvm.MethodName)) ∈ wG := wgM2 221 rfl rfl
theorem wt_462 : (Jvm.Cond.code ({ cls := "EvenScatter$Corners", name := "setHighs", desc := "(LEvenScatter$Scatter;I)V" } : Jvm.MethodName) prog_2_method_7_code (5 : Nat) (Option.none : Option Jvm.ClassFile.FieldType)) ∈ wG := wgM2 222 rfl rfl
theorem wt_463 : (Jvm.Cond.methodLink "EvenScatter$Corners" (64 : Nat) ({ cls := "EvenScatter$Corners", name := "cornerMayBe", desc := "(LEvenScatter$Scatter;Z)Z" } : Jvm.MethodName)) ∈ wG := wgM2 223 rfl rfl
theorem wt_465 : (Jvm.Cond.instanceMethod ({ cls := "EvenScatter$Corners", name := "cornerMayBe", desc := "(LEvenScatter$Scatter;Z)Z" } : Jvm.MethodName)) ∈ wG := wgM2 225 rfl rfl
theorem wt_466 : (Jvm.Cond.code ({ cls := "EvenScatter$Corners", name := "cornerMayBe", desc := "(LEvenScatter$Scatter;Z)Z" } : Jvm.MethodName) prog_2_method_8_code (5 : Nat) (Option.some Jvm.ClassFile.FieldType.boolean)) ∈ wG := wgM2 226 rfl rfl
theorem wt_467 : (Jvm.Cond.methodLink "EvenScatter$Corners" (68 : Nat) ({ cls := "EvenScatter$Corners", name := "sizeOf", desc := "(LEvenScatter$Scatter;)J" } : Jvm.MethodName)) ∈ wG := wgM2 227 rfl rfl
theorem wt_469 : (Jvm.Cond.instanceMethod ({ cls := "EvenScatter$Corners", name := "sizeOf", desc := "(LEvenScatter$Scatter;)J" } : Jvm.MethodName)) ∈ wG := wgM2 229 rfl rfl
theorem wt_470 : (Jvm.Cond.code ({ cls := "EvenScatter$Corners", name := "sizeOf", desc := "(LEvenScatter$Scatter;)J" } : Jvm.MethodName) prog_2_method_9_code (5 : Nat) (Option.some Jvm.ClassFile.FieldType.long)) ∈ wG := wgM2 230 rfl rfl
theorem wt_471 : (Jvm.Cond.methodLink "EvenScatter$Corners" (72 : Nat) ({ cls := "EvenScatter$Corners", name := "consider", desc := "(LEvenScatter$Scatter;JZ)V" } : Jvm.MethodName)) ∈ wG := wgM2 231 rfl rfl
theorem wt_473 : (Jvm.Cond.instanceMethod ({ cls := "EvenScatter$Corners", name := "consider", desc := "(LEvenScatter$Scatter;JZ)V" } : Jvm.MethodName)) ∈ wG := wgM2 233 rfl rfl
theorem wt_474 : (Jvm.Cond.code ({ cls := "EvenScatter$Corners", name := "consider", desc := "(LEvenScatter$Scatter;JZ)V" } : Jvm.MethodName) prog_2_method_3_code (5 : Nat) (Option.none : Option Jvm.ClassFile.FieldType)) ∈ wG := wgM2 234 rfl rfl
theorem wt_475 : (Jvm.Cond.methodLink "EvenScatter$Corners" (80 : Nat) ({ cls := "java/lang/System", name := "arraycopy", desc := "(Ljava/lang/Object;ILjava/lang/Object;II)V" } : Jvm.MethodName)) ∈ wG := wgM2 235 rfl rfl
theorem wt_476 : (Jvm.Cond.methodLink "EvenScatterLaw" (114 : Nat) ({ cls := "EvenScatter", name := "square", desc := "(II)J" } : Jvm.MethodName)) ∈ wG := wgM2 236 rfl rfl
theorem wt_477 : (Jvm.Cond.instanceMethod ({ cls := "EvenScatter", name := "square", desc := "(II)J" } : Jvm.MethodName)) ∈ wG := wgM2 237 rfl rfl
theorem wt_478 : (Jvm.Cond.selects "EvenScatter" ({ cls := "EvenScatter", name := "square", desc := "(II)J" } : Jvm.MethodName) ({ cls := "EvenScatter", name := "square", desc := "(II)J" } : Jvm.MethodName)) ∈ wG := wgM2 238 rfl rfl
theorem wt_479 : (Jvm.Cond.code ({ cls := "EvenScatter", name := "square", desc := "(II)J" } : Jvm.MethodName) prog_1_method_25_code (15 : Nat) (Option.some Jvm.ClassFile.FieldType.long)) ∈ wG := wgM2 239 rfl rfl
theorem wt_480 : (Jvm.Cond.constantLong "EvenScatter" (212 : Nat) (3 : Int64)) ∈ wG := wgM3 0 rfl rfl
theorem wt_481 : (Jvm.Cond.constantLong "EvenScatter" (214 : Nat) (2 : Int64)) ∈ wG := wgM3 1 rfl rfl
theorem wt_482 : (Jvm.Cond.methodLink "EvenScatter" (216 : Nat) ({ cls := "EvenScatter", name := "pairSum", desc := "(LEvenScatter$Scatter;)J" } : Jvm.MethodName)) ∈ wG := wgM3 2 rfl rfl
theorem wt_483 : (Jvm.Cond.static ({ cls := "EvenScatter", name := "pairSum", desc := "(LEvenScatter$Scatter;)J" } : Jvm.MethodName)) ∈ wG := wgM3 3 rfl rfl
theorem wt_484 : (Jvm.Cond.code ({ cls := "EvenScatter", name := "pairSum", desc := "(LEvenScatter$Scatter;)J" } : Jvm.MethodName) prog_1_method_39_code (8 : Nat) (Option.some Jvm.ClassFile.FieldType.long)) ∈ wG := wgM3 4 rfl rfl
theorem wt_485 : (Jvm.Cond.methodLink "EvenScatter" (259 : Nat) ({ cls := "java/lang/Math", name := "max", desc := "(II)I" } : Jvm.MethodName)) ∈ wG := wgM3 5 rfl rfl
theorem wt_486 : (Jvm.Cond.methodLink "EvenScatter" (220 : Nat) ({ cls := "EvenScatter", name := "pointSum", desc := "(LEvenScatter$Scatter;)J" } : Jvm.MethodName)) ∈ wG := wgM3 6 rfl rfl
theorem wt_487 : (Jvm.Cond.static ({ cls := "EvenScatter", name := "pointSum", desc := "(LEvenScatter$Scatter;)J" } : Jvm.MethodName)) ∈ wG := wgM3 7 rfl rfl
theorem wt_488 : (Jvm.Cond.code ({ cls := "EvenScatter", name := "pointSum", desc := "(LEvenScatter$Scatter;)J" } : Jvm.MethodName) prog_1_method_38_code (11 : Nat) (Option.some Jvm.ClassFile.FieldType.long)) ∈ wG := wgM3 8 rfl rfl
theorem wt_489 : (Jvm.Cond.methodLink "EvenScatterLaw" (118 : Nat) ({ cls := "EvenScatter", name := "wave", desc := "(I)J" } : Jvm.MethodName)) ∈ wG := wgM3 9 rfl rfl
theorem wt_490 : (Jvm.Cond.instanceMethod ({ cls := "EvenScatter", name := "wave", desc := "(I)J" } : Jvm.MethodName)) ∈ wG := wgM3 10 rfl rfl
theorem wt_491 : (Jvm.Cond.selects "EvenScatter" ({ cls := "EvenScatter", name := "wave", desc := "(I)J" } : Jvm.MethodName) ({ cls := "EvenScatter", name := "wave", desc := "(I)J" } : Jvm.MethodName)) ∈ wG := wgM3 11 rfl rfl
theorem wt_492 : (Jvm.Cond.code ({ cls := "EvenScatter", name := "wave", desc := "(I)J" } : Jvm.MethodName) prog_1_method_26_code (6 : Nat) (Option.some Jvm.ClassFile.FieldType.long)) ∈ wG := wgM3 12 rfl rfl
theorem wt_493 : (Jvm.Cond.methodLink "EvenScatter" (226 : Nat) ({ cls := "EvenScatter$Tray", name := "signOf", desc := "(LEvenScatter$Scatter;I)I" } : Jvm.MethodName)) ∈ wG := wgM3 13 rfl rfl
theorem wt_494 : (Jvm.Cond.instanceMethod ({ cls := "EvenScatter$Tray", name := "signOf", desc := "(LEvenScatter$Scatter;I)I" } : Jvm.MethodName)) ∈ wG := wgM3 14 rfl rfl
theorem wt_495 : (Jvm.Cond.selects "EvenScatter$Tray" ({ cls := "EvenScatter$Tray", name := "signOf", desc := "(LEvenScatter$Scatter;I)I" } : Jvm.MethodName) ({ cls := "EvenScatter$Tray", name := "signOf", desc := "(LEvenScatter$Scatter;I)I" } : Jvm.MethodName)) ∈ wG := wgM3 15 rfl rfl
theorem wt_496 : (Jvm.Cond.code ({ cls := "EvenScatter$Tray", name := "signOf", desc := "(LEvenScatter$Scatter;I)I" } : Jvm.MethodName) prog_5_method_9_code (5 : Nat) (Option.some Jvm.ClassFile.FieldType.int)) ∈ wG := wgM3 16 rfl rfl
theorem wt_497 : (Jvm.Cond.methodLink "EvenScatter$Tray" (37 : Nat) ({ cls := "java/lang/Integer", name := "bitCount", desc := "(I)I" } : Jvm.MethodName)) ∈ wG := wgM3 17 rfl rfl
theorem wt_498 : (Jvm.Cond.static ({ cls := "java/lang/Integer", name := "bitCount", desc := "(I)I" } : Jvm.MethodName)) ∈ wG := wgM3 18 rfl rfl
theorem wt_499 : (Jvm.Cond.code ({ cls := "java/lang/Integer", name := "bitCount", desc := "(I)I" } : Jvm.MethodName) prog_8_method_49_code (1 : Nat) (Option.some Jvm.ClassFile.FieldType.int)) ∈ wG := wgM3 19 rfl rfl
theorem wt_500 : (Jvm.Cond.constant "java/lang/Integer" (265 : Nat) (1431655765 : Int32)) ∈ wG := wgM3 20 rfl rfl
theorem wt_501 : (Jvm.Cond.constant "java/lang/Integer" (266 : Nat) (858993459 : Int32)) ∈ wG := wgM3 21 rfl rfl
theorem wt_502 : (Jvm.Cond.constant "java/lang/Integer" (267 : Nat) (252645135 : Int32)) ∈ wG := wgM3 22 rfl rfl
theorem wt_503 : (Jvm.Cond.methodLink "EvenScatterLaw" (123 : Nat) ({ cls := "EvenScatter", name := "waves", desc := "(III)J" } : Jvm.MethodName)) ∈ wG := wgM3 23 rfl rfl
theorem wt_504 : (Jvm.Cond.instanceMethod ({ cls := "EvenScatter", name := "waves", desc := "(III)J" } : Jvm.MethodName)) ∈ wG := wgM3 24 rfl rfl
theorem wt_505 : (Jvm.Cond.selects "EvenScatter" ({ cls := "EvenScatter", name := "waves", desc := "(III)J" } : Jvm.MethodName) ({ cls := "EvenScatter", name := "waves", desc := "(III)J" } : Jvm.MethodName)) ∈ wG := wgM3 25 rfl rfl
theorem wt_506 : (Jvm.Cond.code ({ cls := "EvenScatter", name := "waves", desc := "(III)J" } : Jvm.MethodName) prog_1_method_27_code (9 : Nat) (Option.some Jvm.ClassFile.FieldType.long)) ∈ wG := wgM3 26 rfl rfl
theorem wt_507 : (Jvm.Cond.methodLink "EvenScatter" (230 : Nat) ({ cls := "EvenScatter", name := "fillWaves", desc := "(LEvenScatter$Scatter;I)V" } : Jvm.MethodName)) ∈ wG := wgM3 27 rfl rfl
theorem wt_509 : (Jvm.Cond.instanceMethod ({ cls := "EvenScatter", name := "fillWaves", desc := "(LEvenScatter$Scatter;I)V" } : Jvm.MethodName)) ∈ wG := wgM3 29 rfl rfl
theorem wt_510 : (Jvm.Cond.code ({ cls := "EvenScatter", name := "fillWaves", desc := "(LEvenScatter$Scatter;I)V" } : Jvm.MethodName) prog_1_method_40_code (9 : Nat) (Option.none : Option Jvm.ClassFile.FieldType)) ∈ wG := wgM3 30 rfl rfl
theorem wt_511 : (Jvm.Cond.methodLink "EvenScatter" (234 : Nat) ({ cls := "java/lang/Integer", name := "bitCount", desc := "(I)I" } : Jvm.MethodName)) ∈ wG := wgM3 31 rfl rfl
theorem wt_512 : (Jvm.Cond.constantLong "EvenScatter" (239 : Nat) (-9 : Int64)) ∈ wG := wgM3 32 rfl rfl
theorem wt_513 : (Jvm.Cond.methodLink "EvenScatterLaw" (128 : Nat) ({ cls := "EvenScatter", name := "sum", desc := "(II)J" } : Jvm.MethodName)) ∈ wG := wgM3 33 rfl rfl
theorem wt_514 : (Jvm.Cond.instanceMethod ({ cls := "EvenScatter", name := "sum", desc := "(II)J" } : Jvm.MethodName)) ∈ wG := wgM3 34 rfl rfl
theorem wt_515 : (Jvm.Cond.selects "EvenScatter" ({ cls := "EvenScatter", name := "sum", desc := "(II)J" } : Jvm.MethodName) ({ cls := "EvenScatter", name := "sum", desc := "(II)J" } : Jvm.MethodName)) ∈ wG := wgM3 35 rfl rfl
theorem wt_516 : (Jvm.Cond.code ({ cls := "EvenScatter", name := "sum", desc := "(II)J" } : Jvm.MethodName) prog_1_method_28_code (10 : Nat) (Option.some Jvm.ClassFile.FieldType.long)) ∈ wG := wgM3 36 rfl rfl
theorem wt_517 : (Jvm.Cond.methodLink "EvenScatter" (244 : Nat) ({ cls := "EvenScatter$Tray", name := "productOfPowers", desc := "(LEvenScatter$Scatter;I)J" } : Jvm.MethodName)) ∈ wG := wgM3 37 rfl rfl
theorem wt_518 : (Jvm.Cond.instanceMethod ({ cls := "EvenScatter$Tray", name := "productOfPowers", desc := "(LEvenScatter$Scatter;I)J" } : Jvm.MethodName)) ∈ wG := wgM3 38 rfl rfl
theorem wt_519 : (Jvm.Cond.selects "EvenScatter$Tray" ({ cls := "EvenScatter$Tray", name := "productOfPowers", desc := "(LEvenScatter$Scatter;I)J" } : Jvm.MethodName) ({ cls := "EvenScatter$Tray", name := "productOfPowers", desc := "(LEvenScatter$Scatter;I)J" } : Jvm.MethodName)) ∈ wG := wgM3 39 rfl rfl
theorem wt_520 : (Jvm.Cond.code ({ cls := "EvenScatter$Tray", name := "productOfPowers", desc := "(LEvenScatter$Scatter;I)J" } : Jvm.MethodName) prog_5_method_10_code (6 : Nat) (Option.some Jvm.ClassFile.FieldType.long)) ∈ wG := wgM3 40 rfl rfl
theorem wn_521 : (Jvm.Cond.methodLinkNest "EvenScatter$Tray" (43 : Nat) ({ cls := "EvenScatter", name := "powerOf", desc := "(JI)J" } : Jvm.MethodName) "EvenScatter") ∈ lw_tbl := lw_m3 (List.mem_of_getElem? (i := 41) rfl)
theorem wt_522 : (Jvm.Cond.methodLink "EvenScatterLaw" (132 : Nat) ({ cls := "EvenScatter", name := "status", desc := "(I)I" } : Jvm.MethodName)) ∈ wG := wgM3 42 rfl rfl
theorem wt_523 : (Jvm.Cond.instanceMethod ({ cls := "EvenScatter", name := "status", desc := "(I)I" } : Jvm.MethodName)) ∈ wG := wgM3 43 rfl rfl
theorem wt_524 : (Jvm.Cond.selects "EvenScatter" ({ cls := "EvenScatter", name := "status", desc := "(I)I" } : Jvm.MethodName) ({ cls := "EvenScatter", name := "status", desc := "(I)I" } : Jvm.MethodName)) ∈ wG := wgM3 44 rfl rfl
theorem wt_525 : (Jvm.Cond.code ({ cls := "EvenScatter", name := "status", desc := "(I)I" } : Jvm.MethodName) prog_1_method_29_code (2 : Nat) (Option.some Jvm.ClassFile.FieldType.int)) ∈ wG := wgM3 45 rfl rfl
theorem wt_526 : (Jvm.Cond.classLink "EvenScatterLaw" (10 : Nat) "EvenScatterModel") ∈ wG := wgM3 46 rfl rfl
theorem wt_527 : (Jvm.Cond.instantiable "EvenScatterModel" (21 : Nat)) ∈ wG := wgM3 47 rfl rfl
theorem wt_528 : (Jvm.Cond.methodLink "EvenScatterLaw" (12 : Nat) ({ cls := "EvenScatterModel", name := "<init>", desc := "()V" } : Jvm.MethodName)) ∈ wG := wgM3 48 rfl rfl
theorem wt_529 : (Jvm.Cond.instanceMethod ({ cls := "EvenScatterModel", name := "<init>", desc := "()V" } : Jvm.MethodName)) ∈ wG := wgM3 49 rfl rfl
theorem wt_530 : (Jvm.Cond.code ({ cls := "EvenScatterModel", name := "<init>", desc := "()V" } : Jvm.MethodName) prog_7_method_1_code (1 : Nat) (Option.none : Option Jvm.ClassFile.FieldType)) ∈ wG := wgM3 50 rfl rfl
theorem wt_531 : (Jvm.Cond.methodLink "EvenScatterModel" (1 : Nat) ({ cls := "java/lang/Object", name := "<init>", desc := "()V" } : Jvm.MethodName)) ∈ wG := wgM3 51 rfl rfl
theorem wt_532 : (Jvm.Cond.constant "EvenScatterModel" (53 : Nat) (65536 : Int32)) ∈ wG := wgM3 52 rfl rfl
theorem wt_533 : (Jvm.Cond.fieldLink "EvenScatterModel" (72 : Nat) "EvenScatterModel" "many" "I") ∈ wG := wgM3 53 rfl rfl
theorem wt_534 : (Jvm.Cond.fieldLink "EvenScatterModel" (7 : Nat) "EvenScatterModel" "kind" "[I") ∈ wG := wgM3 54 rfl rfl
theorem wt_535 : (Jvm.Cond.fieldLink "EvenScatterModel" (13 : Nat) "EvenScatterModel" "dims" "[I") ∈ wG := wgM3 55 rfl rfl
theorem wt_536 : (Jvm.Cond.fieldLink "EvenScatterModel" (16 : Nat) "EvenScatterModel" "power" "[I") ∈ wG := wgM3 56 rfl rfl
theorem wt_537 : (Jvm.Cond.fieldLink "EvenScatterModel" (19 : Nat) "EvenScatterModel" "count" "[I") ∈ wG := wgM3 57 rfl rfl
theorem wt_538 : (Jvm.Cond.fieldLink "EvenScatterModel" (22 : Nat) "EvenScatterModel" "turn" "[I") ∈ wG := wgM3 58 rfl rfl
theorem wt_539 : (Jvm.Cond.fieldLink "EvenScatterModel" (25 : Nat) "EvenScatterModel" "rows" "[I") ∈ wG := wgM3 59 rfl rfl
theorem wt_540 : (Jvm.Cond.fieldLink "EvenScatterModel" (28 : Nat) "EvenScatterModel" "masks" "[I") ∈ wG := wgM3 60 rfl rfl
theorem wt_541 : (Jvm.Cond.fieldLink "EvenScatterModel" (31 : Nat) "EvenScatterModel" "steps" "[I") ∈ wG := wgM3 61 rfl rfl
theorem wt_542 : (Jvm.Cond.fieldLink "EvenScatterModel" (34 : Nat) "EvenScatterModel" "lots" "[I") ∈ wG := wgM3 62 rfl rfl
theorem wt_543 : (Jvm.Cond.fieldLink "EvenScatterModel" (37 : Nat) "EvenScatterModel" "low" "[I") ∈ wG := wgM3 63 rfl rfl
theorem wt_544 : (Jvm.Cond.fieldLink "EvenScatterModel" (40 : Nat) "EvenScatterModel" "high" "[I") ∈ wG := wgM3 64 rfl rfl
theorem wt_545 : (Jvm.Cond.fieldLink "EvenScatterModel" (43 : Nat) "EvenScatterModel" "marks" "[I") ∈ wG := wgM3 65 rfl rfl
theorem wt_546 : (Jvm.Cond.fieldLink "EvenScatterModel" (114 : Nat) "EvenScatterModel" "told" "I") ∈ wG := wgM3 66 rfl rfl
theorem wt_547 : (Jvm.Cond.fieldLink "EvenScatterModel" (46 : Nat) "EvenScatterModel" "refused" "[I") ∈ wG := wgM3 67 rfl rfl
theorem wt_548 : (Jvm.Cond.fieldLink "EvenScatterModel" (49 : Nat) "EvenScatterModel" "numbers" "[J") ∈ wG := wgM3 68 rfl rfl
theorem wt_549 : (Jvm.Cond.fieldLink "EvenScatterModel" (54 : Nat) "EvenScatterModel" "boxes" "[I") ∈ wG := wgM3 69 rfl rfl
theorem wt_550 : (Jvm.Cond.fieldLink "EvenScatterModel" (57 : Nat) "EvenScatterModel" "cuts" "[I") ∈ wG := wgM3 70 rfl rfl
theorem wt_551 : (Jvm.Cond.fieldLink "EvenScatterModel" (60 : Nat) "EvenScatterModel" "freely" "[I") ∈ wG := wgM3 71 rfl rfl
theorem wt_552 : (Jvm.Cond.fieldLink "EvenScatterModel" (63 : Nat) "EvenScatterModel" "corner" "[I") ∈ wG := wgM3 72 rfl rfl
theorem wt_553 : (Jvm.Cond.fieldLink "EvenScatterModel" (66 : Nat) "EvenScatterModel" "isPart" "[Z") ∈ wG := wgM3 73 rfl rfl
theorem wt_597 : (Jvm.Cond.arrayClass Jvm.ClassFile.FieldType.long) ∈ wG := wgM3 117 rfl rfl
theorem wt_598 : (Jvm.Cond.arrayClass Jvm.ClassFile.FieldType.boolean) ∈ wG := wgM3 118 rfl rfl
theorem wt_599 : (Jvm.Cond.methodLink "EvenScatterLaw" (17 : Nat) ({ cls := "EvenScatterModel", name := "table", desc := "(II)I" } : Jvm.MethodName)) ∈ wG := wgM3 119 rfl rfl
theorem wt_600 : (Jvm.Cond.instanceMethod ({ cls := "EvenScatterModel", name := "table", desc := "(II)I" } : Jvm.MethodName)) ∈ wG := wgM3 120 rfl rfl
theorem wt_601 : (Jvm.Cond.selects "EvenScatterModel" ({ cls := "EvenScatterModel", name := "table", desc := "(II)I" } : Jvm.MethodName) ({ cls := "EvenScatterModel", name := "table", desc := "(II)I" } : Jvm.MethodName)) ∈ wG := wgM3 121 rfl rfl
theorem wt_602 : (Jvm.Cond.code ({ cls := "EvenScatterModel", name := "table", desc := "(II)I" } : Jvm.MethodName) prog_7_method_10_code (4 : Nat) (Option.some Jvm.ClassFile.FieldType.int)) ∈ wG := wgM3 122 rfl rfl
theorem wt_603 : (Jvm.Cond.methodLink "EvenScatterModel" (84 : Nat) ({ cls := "EvenScatterModel", name := "lacks", desc := "(II)I" } : Jvm.MethodName)) ∈ wG := wgM3 123 rfl rfl
theorem wt_604 : (Jvm.Cond.static ({ cls := "EvenScatterModel", name := "lacks", desc := "(II)I" } : Jvm.MethodName)) ∈ wG := wgM3 124 rfl rfl
theorem wt_605 : (Jvm.Cond.code ({ cls := "EvenScatterModel", name := "lacks", desc := "(II)I" } : Jvm.MethodName) prog_7_method_9_code (2 : Nat) (Option.some Jvm.ClassFile.FieldType.int)) ∈ wG := wgM3 125 rfl rfl
theorem wt_606 : (Jvm.Cond.methodLink "EvenScatterModel" (88 : Nat) ({ cls := "EvenScatterModel", name := "refuse", desc := "(I)I" } : Jvm.MethodName)) ∈ wG := wgM3 126 rfl rfl
theorem wt_608 : (Jvm.Cond.instanceMethod ({ cls := "EvenScatterModel", name := "refuse", desc := "(I)I" } : Jvm.MethodName)) ∈ wG := wgM3 128 rfl rfl
theorem wt_609 : (Jvm.Cond.code ({ cls := "EvenScatterModel", name := "refuse", desc := "(I)I" } : Jvm.MethodName) prog_7_method_4_code (2 : Nat) (Option.some Jvm.ClassFile.FieldType.int)) ∈ wG := wgM3 129 rfl rfl
theorem wt_610 : (Jvm.Cond.methodLink "EvenScatterModel" (92 : Nat) ({ cls := "EvenScatterModel", name := "make", desc := "(IIII)I" } : Jvm.MethodName)) ∈ wG := wgM3 130 rfl rfl
theorem wt_612 : (Jvm.Cond.instanceMethod ({ cls := "EvenScatterModel", name := "make", desc := "(IIII)I" } : Jvm.MethodName)) ∈ wG := wgM3 132 rfl rfl
theorem wt_613 : (Jvm.Cond.code ({ cls := "EvenScatterModel", name := "make", desc := "(IIII)I" } : Jvm.MethodName) prog_7_method_8_code (6 : Nat) (Option.some Jvm.ClassFile.FieldType.int)) ∈ wG := wgM3 133 rfl rfl
theorem wt_614 : (Jvm.Cond.methodLink "EvenScatterLaw" (22 : Nat) ({ cls := "EvenScatterModel", name := "row", desc := "(IIII)I" } : Jvm.MethodName)) ∈ wG := wgM3 134 rfl rfl
theorem wt_615 : (Jvm.Cond.instanceMethod ({ cls := "EvenScatterModel", name := "row", desc := "(IIII)I" } : Jvm.MethodName)) ∈ wG := wgM3 135 rfl rfl
theorem wt_616 : (Jvm.Cond.selects "EvenScatterModel" ({ cls := "EvenScatterModel", name := "row", desc := "(IIII)I" } : Jvm.MethodName) ({ cls := "EvenScatterModel", name := "row", desc := "(IIII)I" } : Jvm.MethodName)) ∈ wG := wgM3 136 rfl rfl
theorem wt_617 : (Jvm.Cond.code ({ cls := "EvenScatterModel", name := "row", desc := "(IIII)I" } : Jvm.MethodName) prog_7_method_11_code (7 : Nat) (Option.some Jvm.ClassFile.FieldType.int)) ∈ wG := wgM3 137 rfl rfl
theorem wt_618 : (Jvm.Cond.methodLink "EvenScatterModel" (96 : Nat) ({ cls := "EvenScatterModel", name := "hasDirection", desc := "(II)Z" } : Jvm.MethodName)) ∈ wG := wgM3 138 rfl rfl
theorem wt_620 : (Jvm.Cond.instanceMethod ({ cls := "EvenScatterModel", name := "hasDirection", desc := "(II)Z" } : Jvm.MethodName)) ∈ wG := wgM3 140 rfl rfl
theorem wt_621 : (Jvm.Cond.code ({ cls := "EvenScatterModel", name := "hasDirection", desc := "(II)Z" } : Jvm.MethodName) prog_7_method_7_code (3 : Nat) (Option.some Jvm.ClassFile.FieldType.boolean)) ∈ wG := wgM3 141 rfl rfl
theorem wt_622 : (Jvm.Cond.methodLink "EvenScatterModel" (80 : Nat) ({ cls := "EvenScatterModel", name := "isScatter", desc := "(I)Z" } : Jvm.MethodName)) ∈ wG := wgM3 142 rfl rfl
theorem wt_624 : (Jvm.Cond.instanceMethod ({ cls := "EvenScatterModel", name := "isScatter", desc := "(I)Z" } : Jvm.MethodName)) ∈ wG := wgM3 144 rfl rfl
theorem wt_625 : (Jvm.Cond.code ({ cls := "EvenScatterModel", name := "isScatter", desc := "(I)Z" } : Jvm.MethodName) prog_7_method_6_code (2 : Nat) (Option.some Jvm.ClassFile.FieldType.boolean)) ∈ wG := wgM3 145 rfl rfl
theorem wt_626 : (Jvm.Cond.methodLink "EvenScatterModel" (76 : Nat) ({ cls := "EvenScatterModel", name := "in", desc := "(JJJ)Z" } : Jvm.MethodName)) ∈ wG := wgM3 146 rfl rfl
theorem wt_627 : (Jvm.Cond.static ({ cls := "EvenScatterModel", name := "in", desc := "(JJJ)Z" } : Jvm.MethodName)) ∈ wG := wgM3 147 rfl rfl
theorem wt_628 : (Jvm.Cond.code ({ cls := "EvenScatterModel", name := "in", desc := "(JJJ)Z" } : Jvm.MethodName) prog_7_method_3_code (6 : Nat) (Option.some Jvm.ClassFile.FieldType.boolean)) ∈ wG := wgM3 148 rfl rfl
theorem wt_629 : (Jvm.Cond.methodLink "EvenScatterLaw" (27 : Nat) ({ cls := "EvenScatterModel", name := "ladder", desc := "(I)I" } : Jvm.MethodName)) ∈ wG := wgM3 149 rfl rfl
theorem wt_630 : (Jvm.Cond.instanceMethod ({ cls := "EvenScatterModel", name := "ladder", desc := "(I)I" } : Jvm.MethodName)) ∈ wG := wgM3 150 rfl rfl
theorem wt_631 : (Jvm.Cond.selects "EvenScatterModel" ({ cls := "EvenScatterModel", name := "ladder", desc := "(I)I" } : Jvm.MethodName) ({ cls := "EvenScatterModel", name := "ladder", desc := "(I)I" } : Jvm.MethodName)) ∈ wG := wgM3 151 rfl rfl
theorem wt_632 : (Jvm.Cond.code ({ cls := "EvenScatterModel", name := "ladder", desc := "(I)I" } : Jvm.MethodName) prog_7_method_12_code (5 : Nat) (Option.some Jvm.ClassFile.FieldType.int)) ∈ wG := wgM3 152 rfl rfl
theorem wt_633 : (Jvm.Cond.methodLink "EvenScatterLaw" (34 : Nat) ({ cls := "EvenScatterModel", name := "direction", desc := "(IIJ)I" } : Jvm.MethodName)) ∈ wG := wgM3 153 rfl rfl
theorem wt_634 : (Jvm.Cond.instanceMethod ({ cls := "EvenScatterModel", name := "direction", desc := "(IIJ)I" } : Jvm.MethodName)) ∈ wG := wgM3 154 rfl rfl
theorem wt_635 : (Jvm.Cond.selects "EvenScatterModel" ({ cls := "EvenScatterModel", name := "direction", desc := "(IIJ)I" } : Jvm.MethodName) ({ cls := "EvenScatterModel", name := "direction", desc := "(IIJ)I" } : Jvm.MethodName)) ∈ wG := wgM3 155 rfl rfl
theorem wt_636 : (Jvm.Cond.code ({ cls := "EvenScatterModel", name := "direction", desc := "(IIJ)I" } : Jvm.MethodName) prog_7_method_13_code (11 : Nat) (Option.some Jvm.ClassFile.FieldType.int)) ∈ wG := wgM3 156 rfl rfl
theorem wt_637 : (Jvm.Cond.constantLong "EvenScatterModel" (100 : Nat) (255 : Int64)) ∈ wG := wgM3 157 rfl rfl
theorem wt_638 : (Jvm.Cond.methodLink "EvenScatterLaw" (38 : Nat) ({ cls := "EvenScatterModel", name := "turned", desc := "(I)I" } : Jvm.MethodName)) ∈ wG := wgM3 158 rfl rfl
theorem wt_639 : (Jvm.Cond.instanceMethod ({ cls := "EvenScatterModel", name := "turned", desc := "(I)I" } : Jvm.MethodName)) ∈ wG := wgM3 159 rfl rfl
theorem wt_640 : (Jvm.Cond.selects "EvenScatterModel" ({ cls := "EvenScatterModel", name := "turned", desc := "(I)I" } : Jvm.MethodName) ({ cls := "EvenScatterModel", name := "turned", desc := "(I)I" } : Jvm.MethodName)) ∈ wG := wgM3 160 rfl rfl
theorem wt_641 : (Jvm.Cond.code ({ cls := "EvenScatterModel", name := "turned", desc := "(I)I" } : Jvm.MethodName) prog_7_method_14_code (4 : Nat) (Option.some Jvm.ClassFile.FieldType.int)) ∈ wG := wgM3 161 rfl rfl
theorem wt_642 : (Jvm.Cond.methodLink "EvenScatterLaw" (43 : Nat) ({ cls := "EvenScatterModel", name := "mask", desc := "(III)I" } : Jvm.MethodName)) ∈ wG := wgM3 162 rfl rfl
theorem wt_643 : (Jvm.Cond.instanceMethod ({ cls := "EvenScatterModel", name := "mask", desc := "(III)I" } : Jvm.MethodName)) ∈ wG := wgM3 163 rfl rfl
theorem wt_644 : (Jvm.Cond.selects "EvenScatterModel" ({ cls := "EvenScatterModel", name := "mask", desc := "(III)I" } : Jvm.MethodName) ({ cls := "EvenScatterModel", name := "mask", desc := "(III)I" } : Jvm.MethodName)) ∈ wG := wgM3 164 rfl rfl
theorem wt_645 : (Jvm.Cond.code ({ cls := "EvenScatterModel", name := "mask", desc := "(III)I" } : Jvm.MethodName) prog_7_method_15_code (5 : Nat) (Option.some Jvm.ClassFile.FieldType.int)) ∈ wG := wgM3 165 rfl rfl
theorem wt_646 : (Jvm.Cond.methodLink "EvenScatterLaw" (47 : Nat) ({ cls := "EvenScatterModel", name := "grid", desc := "(II)I" } : Jvm.MethodName)) ∈ wG := wgM3 166 rfl rfl
theorem wt_647 : (Jvm.Cond.instanceMethod ({ cls := "EvenScatterModel", name := "grid", desc := "(II)I" } : Jvm.MethodName)) ∈ wG := wgM3 167 rfl rfl
theorem wt_648 : (Jvm.Cond.selects "EvenScatterModel" ({ cls := "EvenScatterModel", name := "grid", desc := "(II)I" } : Jvm.MethodName) ({ cls := "EvenScatterModel", name := "grid", desc := "(II)I" } : Jvm.MethodName)) ∈ wG := wgM3 168 rfl rfl
theorem wt_649 : (Jvm.Cond.code ({ cls := "EvenScatterModel", name := "grid", desc := "(II)I" } : Jvm.MethodName) prog_7_method_16_code (3 : Nat) (Option.some Jvm.ClassFile.FieldType.int)) ∈ wG := wgM3 169 rfl rfl
theorem wt_650 : (Jvm.Cond.methodLink "EvenScatterLaw" (51 : Nat) ({ cls := "EvenScatterModel", name := "step", desc := "(III)I" } : Jvm.MethodName)) ∈ wG := wgM3 170 rfl rfl
theorem wt_651 : (Jvm.Cond.instanceMethod ({ cls := "EvenScatterModel", name := "step", desc := "(III)I" } : Jvm.MethodName)) ∈ wG := wgM3 171 rfl rfl
theorem wt_652 : (Jvm.Cond.selects "EvenScatterModel" ({ cls := "EvenScatterModel", name := "step", desc := "(III)I" } : Jvm.MethodName) ({ cls := "EvenScatterModel", name := "step", desc := "(III)I" } : Jvm.MethodName)) ∈ wG := wgM3 172 rfl rfl
theorem wt_653 : (Jvm.Cond.code ({ cls := "EvenScatterModel", name := "step", desc := "(III)I" } : Jvm.MethodName) prog_7_method_17_code (5 : Nat) (Option.some Jvm.ClassFile.FieldType.int)) ∈ wG := wgM3 173 rfl rfl
theorem wt_654 : (Jvm.Cond.methodLink "EvenScatterLaw" (55 : Nat) ({ cls := "EvenScatterModel", name := "lots", desc := "(IIJ)I" } : Jvm.MethodName)) ∈ wG := wgM3 174 rfl rfl
theorem wt_655 : (Jvm.Cond.instanceMethod ({ cls := "EvenScatterModel", name := "lots", desc := "(IIJ)I" } : Jvm.MethodName)) ∈ wG := wgM3 175 rfl rfl
theorem wt_656 : (Jvm.Cond.selects "EvenScatterModel" ({ cls := "EvenScatterModel", name := "lots", desc := "(IIJ)I" } : Jvm.MethodName) ({ cls := "EvenScatterModel", name := "lots", desc := "(IIJ)I" } : Jvm.MethodName)) ∈ wG := wgM3 176 rfl rfl
theorem wt_657 : (Jvm.Cond.code ({ cls := "EvenScatterModel", name := "lots", desc := "(IIJ)I" } : Jvm.MethodName) prog_7_method_18_code (11 : Nat) (Option.some Jvm.ClassFile.FieldType.int)) ∈ wG := wgM3 177 rfl rfl
theorem wt_658 : (Jvm.Cond.constantLong "EvenScatterModel" (102 : Nat) (6364136223846793005 : Int64)) ∈ wG := wgM3 178 rfl rfl
theorem wt_659 : (Jvm.Cond.constantLong "EvenScatterModel" (104 : Nat) (1442695040888963407 : Int64)) ∈ wG := wgM3 179 rfl rfl
theorem wt_660 : (Jvm.Cond.methodLink "EvenScatterLaw" (59 : Nat) ({ cls := "EvenScatterModel", name := "scatter", desc := "(II)I" } : Jvm.MethodName)) ∈ wG := wgM3 180 rfl rfl
theorem wt_661 : (Jvm.Cond.instanceMethod ({ cls := "EvenScatterModel", name := "scatter", desc := "(II)I" } : Jvm.MethodName)) ∈ wG := wgM3 181 rfl rfl
theorem wt_662 : (Jvm.Cond.selects "EvenScatterModel" ({ cls := "EvenScatterModel", name := "scatter", desc := "(II)I" } : Jvm.MethodName) ({ cls := "EvenScatterModel", name := "scatter", desc := "(II)I" } : Jvm.MethodName)) ∈ wG := wgM3 182 rfl rfl
theorem wt_663 : (Jvm.Cond.code ({ cls := "EvenScatterModel", name := "scatter", desc := "(II)I" } : Jvm.MethodName) prog_7_method_19_code (3 : Nat) (Option.some Jvm.ClassFile.FieldType.int)) ∈ wG := wgM3 183 rfl rfl
theorem wt_664 : (Jvm.Cond.methodLink "EvenScatterLaw" (63 : Nat) ({ cls := "EvenScatterModel", name := "part", desc := "(III)I" } : Jvm.MethodName)) ∈ wG := wgM3 184 rfl rfl
theorem wt_665 : (Jvm.Cond.instanceMethod ({ cls := "EvenScatterModel", name := "part", desc := "(III)I" } : Jvm.MethodName)) ∈ wG := wgM3 185 rfl rfl
theorem wt_666 : (Jvm.Cond.selects "EvenScatterModel" ({ cls := "EvenScatterModel", name := "part", desc := "(III)I" } : Jvm.MethodName) ({ cls := "EvenScatterModel", name := "part", desc := "(III)I" } : Jvm.MethodName)) ∈ wG := wgM3 186 rfl rfl
theorem wt_667 : (Jvm.Cond.code ({ cls := "EvenScatterModel", name := "part", desc := "(III)I" } : Jvm.MethodName) prog_7_method_22_code (4 : Nat) (Option.some Jvm.ClassFile.FieldType.int)) ∈ wG := wgM3 187 rfl rfl
theorem wt_668 : (Jvm.Cond.methodLink "EvenScatterModel" (109 : Nat) ({ cls := "EvenScatterModel", name := "partOf", desc := "(III)I" } : Jvm.MethodName)) ∈ wG := wgM3 188 rfl rfl
theorem wt_670 : (Jvm.Cond.instanceMethod ({ cls := "EvenScatterModel", name := "partOf", desc := "(III)I" } : Jvm.MethodName)) ∈ wG := wgM3 190 rfl rfl
theorem wt_671 : (Jvm.Cond.code ({ cls := "EvenScatterModel", name := "partOf", desc := "(III)I" } : Jvm.MethodName) prog_7_method_21_code (6 : Nat) (Option.some Jvm.ClassFile.FieldType.int)) ∈ wG := wgM3 191 rfl rfl
theorem wt_672 : (Jvm.Cond.methodLink "EvenScatterModel" (106 : Nat) ({ cls := "EvenScatterModel", name := "odd", desc := "(I)I" } : Jvm.MethodName)) ∈ wG := wgM3 192 rfl rfl
theorem wt_673 : (Jvm.Cond.static ({ cls := "EvenScatterModel", name := "odd", desc := "(I)I" } : Jvm.MethodName)) ∈ wG := wgM3 193 rfl rfl
theorem wt_674 : (Jvm.Cond.code ({ cls := "EvenScatterModel", name := "odd", desc := "(I)I" } : Jvm.MethodName) prog_7_method_20_code (3 : Nat) (Option.some Jvm.ClassFile.FieldType.int)) ∈ wG := wgM3 194 rfl rfl
theorem wt_675 : (Jvm.Cond.methodLink "EvenScatterLaw" (67 : Nat) ({ cls := "EvenScatterModel", name := "next", desc := "(I)I" } : Jvm.MethodName)) ∈ wG := wgM3 195 rfl rfl
theorem wt_676 : (Jvm.Cond.instanceMethod ({ cls := "EvenScatterModel", name := "next", desc := "(I)I" } : Jvm.MethodName)) ∈ wG := wgM3 196 rfl rfl
theorem wt_677 : (Jvm.Cond.selects "EvenScatterModel" ({ cls := "EvenScatterModel", name := "next", desc := "(I)I" } : Jvm.MethodName) ({ cls := "EvenScatterModel", name := "next", desc := "(I)I" } : Jvm.MethodName)) ∈ wG := wgM3 197 rfl rfl
theorem wt_678 : (Jvm.Cond.code ({ cls := "EvenScatterModel", name := "next", desc := "(I)I" } : Jvm.MethodName) prog_7_method_23_code (3 : Nat) (Option.some Jvm.ClassFile.FieldType.int)) ∈ wG := wgM3 198 rfl rfl
theorem wt_679 : (Jvm.Cond.constant "EvenScatterModel" (113 : Nat) (1000000 : Int32)) ∈ wG := wgM3 199 rfl rfl
theorem wt_680 : (Jvm.Cond.methodLink "EvenScatterLaw" (71 : Nat) ({ cls := "EvenScatterModel", name := "skip", desc := "(II)I" } : Jvm.MethodName)) ∈ wG := wgM3 200 rfl rfl
theorem wt_681 : (Jvm.Cond.instanceMethod ({ cls := "EvenScatterModel", name := "skip", desc := "(II)I" } : Jvm.MethodName)) ∈ wG := wgM3 201 rfl rfl
theorem wt_682 : (Jvm.Cond.selects "EvenScatterModel" ({ cls := "EvenScatterModel", name := "skip", desc := "(II)I" } : Jvm.MethodName) ({ cls := "EvenScatterModel", name := "skip", desc := "(II)I" } : Jvm.MethodName)) ∈ wG := wgM3 202 rfl rfl
theorem wt_683 : (Jvm.Cond.code ({ cls := "EvenScatterModel", name := "skip", desc := "(II)I" } : Jvm.MethodName) prog_7_method_24_code (4 : Nat) (Option.some Jvm.ClassFile.FieldType.int)) ∈ wG := wgM3 203 rfl rfl
theorem wt_684 : (Jvm.Cond.methodLink "EvenScatterLaw" (75 : Nat) ({ cls := "EvenScatterModel", name := "side", desc := "(III)I" } : Jvm.MethodName)) ∈ wG := wgM3 204 rfl rfl
theorem wt_685 : (Jvm.Cond.instanceMethod ({ cls := "EvenScatterModel", name := "side", desc := "(III)I" } : Jvm.MethodName)) ∈ wG := wgM3 205 rfl rfl
theorem wt_686 : (Jvm.Cond.selects "EvenScatterModel" ({ cls := "EvenScatterModel", name := "side", desc := "(III)I" } : Jvm.MethodName) ({ cls := "EvenScatterModel", name := "side", desc := "(III)I" } : Jvm.MethodName)) ∈ wG := wgM3 206 rfl rfl
theorem wt_687 : (Jvm.Cond.code ({ cls := "EvenScatterModel", name := "side", desc := "(III)I" } : Jvm.MethodName) prog_7_method_25_code (4 : Nat) (Option.some Jvm.ClassFile.FieldType.int)) ∈ wG := wgM3 207 rfl rfl
theorem wt_688 : (Jvm.Cond.constantLong "EvenScatterModel" (117 : Nat) (5 : Int64)) ∈ wG := wgM3 208 rfl rfl
theorem wt_689 : (Jvm.Cond.methodLink "EvenScatterLaw" (79 : Nat) ({ cls := "EvenScatterModel", name := "mark", desc := "(II)I" } : Jvm.MethodName)) ∈ wG := wgM3 209 rfl rfl
theorem wt_690 : (Jvm.Cond.instanceMethod ({ cls := "EvenScatterModel", name := "mark", desc := "(II)I" } : Jvm.MethodName)) ∈ wG := wgM3 210 rfl rfl
theorem wt_691 : (Jvm.Cond.selects "EvenScatterModel" ({ cls := "EvenScatterModel", name := "mark", desc := "(II)I" } : Jvm.MethodName) ({ cls := "EvenScatterModel", name := "mark", desc := "(II)I" } : Jvm.MethodName)) ∈ wG := wgM3 211 rfl rfl
theorem wt_692 : (Jvm.Cond.code ({ cls := "EvenScatterModel", name := "mark", desc := "(II)I" } : Jvm.MethodName) prog_7_method_26_code (4 : Nat) (Option.some Jvm.ClassFile.FieldType.int)) ∈ wG := wgM3 212 rfl rfl
theorem wt_693 : (Jvm.Cond.methodLink "EvenScatterLaw" (83 : Nat) ({ cls := "EvenScatterModel", name := "count", desc := "(I)I" } : Jvm.MethodName)) ∈ wG := wgM3 213 rfl rfl
theorem wt_694 : (Jvm.Cond.instanceMethod ({ cls := "EvenScatterModel", name := "count", desc := "(I)I" } : Jvm.MethodName)) ∈ wG := wgM3 214 rfl rfl
theorem wt_695 : (Jvm.Cond.selects "EvenScatterModel" ({ cls := "EvenScatterModel", name := "count", desc := "(I)I" } : Jvm.MethodName) ({ cls := "EvenScatterModel", name := "count", desc := "(I)I" } : Jvm.MethodName)) ∈ wG := wgM3 215 rfl rfl
theorem wt_696 : (Jvm.Cond.code ({ cls := "EvenScatterModel", name := "count", desc := "(I)I" } : Jvm.MethodName) prog_7_method_27_code (7 : Nat) (Option.some Jvm.ClassFile.FieldType.int)) ∈ wG := wgM3 216 rfl rfl
theorem wt_697 : (Jvm.Cond.methodLink "EvenScatterLaw" (87 : Nat) ({ cls := "EvenScatterModel", name := "back", desc := "(I)I" } : Jvm.MethodName)) ∈ wG := wgM3 217 rfl rfl
theorem wt_698 : (Jvm.Cond.instanceMethod ({ cls := "EvenScatterModel", name := "back", desc := "(I)I" } : Jvm.MethodName)) ∈ wG := wgM3 218 rfl rfl
theorem wt_699 : (Jvm.Cond.selects "EvenScatterModel" ({ cls := "EvenScatterModel", name := "back", desc := "(I)I" } : Jvm.MethodName) ({ cls := "EvenScatterModel", name := "back", desc := "(I)I" } : Jvm.MethodName)) ∈ wG := wgM3 219 rfl rfl
theorem wt_700 : (Jvm.Cond.code ({ cls := "EvenScatterModel", name := "back", desc := "(I)I" } : Jvm.MethodName) prog_7_method_28_code (5 : Nat) (Option.some Jvm.ClassFile.FieldType.int)) ∈ wG := wgM3 220 rfl rfl
theorem wt_701 : (Jvm.Cond.methodLink "EvenScatterLaw" (91 : Nat) ({ cls := "EvenScatterModel", name := "even", desc := "(I)I" } : Jvm.MethodName)) ∈ wG := wgM3 221 rfl rfl
theorem wt_702 : (Jvm.Cond.instanceMethod ({ cls := "EvenScatterModel", name := "even", desc := "(I)I" } : Jvm.MethodName)) ∈ wG := wgM3 222 rfl rfl
theorem wt_703 : (Jvm.Cond.selects "EvenScatterModel" ({ cls := "EvenScatterModel", name := "even", desc := "(I)I" } : Jvm.MethodName) ({ cls := "EvenScatterModel", name := "even", desc := "(I)I" } : Jvm.MethodName)) ∈ wG := wgM3 223 rfl rfl
theorem wt_704 : (Jvm.Cond.code ({ cls := "EvenScatterModel", name := "even", desc := "(I)I" } : Jvm.MethodName) prog_7_method_31_code (3 : Nat) (Option.some Jvm.ClassFile.FieldType.int)) ∈ wG := wgM3 224 rfl rfl
theorem wt_705 : (Jvm.Cond.methodLink "EvenScatterModel" (119 : Nat) ({ cls := "EvenScatterModel", name := "lacksShape", desc := "(I)I" } : Jvm.MethodName)) ∈ wG := wgM3 225 rfl rfl
theorem wt_707 : (Jvm.Cond.instanceMethod ({ cls := "EvenScatterModel", name := "lacksShape", desc := "(I)I" } : Jvm.MethodName)) ∈ wG := wgM3 227 rfl rfl
theorem wt_708 : (Jvm.Cond.code ({ cls := "EvenScatterModel", name := "lacksShape", desc := "(I)I" } : Jvm.MethodName) prog_7_method_30_code (4 : Nat) (Option.some Jvm.ClassFile.FieldType.int)) ∈ wG := wgM3 228 rfl rfl
theorem wt_709 : (Jvm.Cond.methodLink "EvenScatterModel" (122 : Nat) ({ cls := "EvenScatterModel", name := "uneven", desc := "(I)I" } : Jvm.MethodName)) ∈ wG := wgM3 229 rfl rfl
theorem wt_711 : (Jvm.Cond.instanceMethod ({ cls := "EvenScatterModel", name := "uneven", desc := "(I)I" } : Jvm.MethodName)) ∈ wG := wgM3 231 rfl rfl
theorem wt_712 : (Jvm.Cond.code ({ cls := "EvenScatterModel", name := "uneven", desc := "(I)I" } : Jvm.MethodName) prog_7_method_29_code (6 : Nat) (Option.some Jvm.ClassFile.FieldType.int)) ∈ wG := wgM3 232 rfl rfl
theorem wt_713 : (Jvm.Cond.methodLink "EvenScatterLaw" (95 : Nat) ({ cls := "EvenScatterModel", name := "why", desc := "(I)I" } : Jvm.MethodName)) ∈ wG := wgM3 233 rfl rfl
theorem wt_714 : (Jvm.Cond.instanceMethod ({ cls := "EvenScatterModel", name := "why", desc := "(I)I" } : Jvm.MethodName)) ∈ wG := wgM3 234 rfl rfl
theorem wt_715 : (Jvm.Cond.selects "EvenScatterModel" ({ cls := "EvenScatterModel", name := "why", desc := "(I)I" } : Jvm.MethodName) ({ cls := "EvenScatterModel", name := "why", desc := "(I)I" } : Jvm.MethodName)) ∈ wG := wgM3 235 rfl rfl
theorem wt_716 : (Jvm.Cond.code ({ cls := "EvenScatterModel", name := "why", desc := "(I)I" } : Jvm.MethodName) prog_7_method_32_code (3 : Nat) (Option.some Jvm.ClassFile.FieldType.int)) ∈ wG := wgM3 236 rfl rfl
theorem wt_717 : (Jvm.Cond.methodLink "EvenScatterLaw" (99 : Nat) ({ cls := "EvenScatterModel", name := "grade", desc := "(I)I" } : Jvm.MethodName)) ∈ wG := wgM3 237 rfl rfl
theorem wt_718 : (Jvm.Cond.instanceMethod ({ cls := "EvenScatterModel", name := "grade", desc := "(I)I" } : Jvm.MethodName)) ∈ wG := wgM3 238 rfl rfl
theorem wt_719 : (Jvm.Cond.selects "EvenScatterModel" ({ cls := "EvenScatterModel", name := "grade", desc := "(I)I" } : Jvm.MethodName) ({ cls := "EvenScatterModel", name := "grade", desc := "(I)I" } : Jvm.MethodName)) ∈ wG := wgM3 239 rfl rfl
theorem wt_720 : (Jvm.Cond.code ({ cls := "EvenScatterModel", name := "grade", desc := "(I)I" } : Jvm.MethodName) prog_7_method_35_code (2 : Nat) (Option.some Jvm.ClassFile.FieldType.int)) ∈ wG := wgM4 0 rfl rfl
theorem wt_721 : (Jvm.Cond.methodLink "EvenScatterModel" (129 : Nat) ({ cls := "EvenScatterModel", name := "gradeOf", desc := "(II)I" } : Jvm.MethodName)) ∈ wG := wgM4 1 rfl rfl
theorem wt_723 : (Jvm.Cond.instanceMethod ({ cls := "EvenScatterModel", name := "gradeOf", desc := "(II)I" } : Jvm.MethodName)) ∈ wG := wgM4 3 rfl rfl
theorem wt_724 : (Jvm.Cond.code ({ cls := "EvenScatterModel", name := "gradeOf", desc := "(II)I" } : Jvm.MethodName) prog_7_method_34_code (4 : Nat) (Option.some Jvm.ClassFile.FieldType.int)) ∈ wG := wgM4 4 rfl rfl
theorem wt_725 : (Jvm.Cond.methodLink "EvenScatterModel" (125 : Nat) ({ cls := "EvenScatterModel", name := "areEven", desc := "(III)Z" } : Jvm.MethodName)) ∈ wG := wgM4 5 rfl rfl
theorem wt_727 : (Jvm.Cond.instanceMethod ({ cls := "EvenScatterModel", name := "areEven", desc := "(III)Z" } : Jvm.MethodName)) ∈ wG := wgM4 7 rfl rfl
theorem wt_728 : (Jvm.Cond.code ({ cls := "EvenScatterModel", name := "areEven", desc := "(III)Z" } : Jvm.MethodName) prog_7_method_33_code (8 : Nat) (Option.some Jvm.ClassFile.FieldType.boolean)) ∈ wG := wgM4 8 rfl rfl
theorem wt_729 : (Jvm.Cond.methodLink "EvenScatterLaw" (103 : Nat) ({ cls := "EvenScatterModel", name := "pair", desc := "(III)I" } : Jvm.MethodName)) ∈ wG := wgM4 9 rfl rfl
theorem wt_730 : (Jvm.Cond.instanceMethod ({ cls := "EvenScatterModel", name := "pair", desc := "(III)I" } : Jvm.MethodName)) ∈ wG := wgM4 10 rfl rfl
theorem wt_731 : (Jvm.Cond.selects "EvenScatterModel" ({ cls := "EvenScatterModel", name := "pair", desc := "(III)I" } : Jvm.MethodName) ({ cls := "EvenScatterModel", name := "pair", desc := "(III)I" } : Jvm.MethodName)) ∈ wG := wgM4 11 rfl rfl
theorem wt_732 : (Jvm.Cond.code ({ cls := "EvenScatterModel", name := "pair", desc := "(III)I" } : Jvm.MethodName) prog_7_method_36_code (4 : Nat) (Option.some Jvm.ClassFile.FieldType.int)) ∈ wG := wgM4 12 rfl rfl
theorem wt_733 : (Jvm.Cond.methodLink "EvenScatterLaw" (108 : Nat) ({ cls := "EvenScatterModel", name := "gap", desc := "(IZI)J" } : Jvm.MethodName)) ∈ wG := wgM4 13 rfl rfl
theorem wt_734 : (Jvm.Cond.instanceMethod ({ cls := "EvenScatterModel", name := "gap", desc := "(IZI)J" } : Jvm.MethodName)) ∈ wG := wgM4 14 rfl rfl
theorem wt_735 : (Jvm.Cond.selects "EvenScatterModel" ({ cls := "EvenScatterModel", name := "gap", desc := "(IZI)J" } : Jvm.MethodName) ({ cls := "EvenScatterModel", name := "gap", desc := "(IZI)J" } : Jvm.MethodName)) ∈ wG := wgM4 15 rfl rfl
theorem wt_736 : (Jvm.Cond.code ({ cls := "EvenScatterModel", name := "gap", desc := "(IZI)J" } : Jvm.MethodName) prog_7_method_42_code (6 : Nat) (Option.some Jvm.ClassFile.FieldType.long)) ∈ wG := wgM4 16 rfl rfl
theorem wt_737 : (Jvm.Cond.methodLink "EvenScatterModel" (143 : Nat) ({ cls := "EvenScatterModel", name := "refuseLong", desc := "(I)J" } : Jvm.MethodName)) ∈ wG := wgM4 17 rfl rfl
theorem wt_739 : (Jvm.Cond.instanceMethod ({ cls := "EvenScatterModel", name := "refuseLong", desc := "(I)J" } : Jvm.MethodName)) ∈ wG := wgM4 19 rfl rfl
theorem wt_740 : (Jvm.Cond.code ({ cls := "EvenScatterModel", name := "refuseLong", desc := "(I)J" } : Jvm.MethodName) prog_7_method_5_code (2 : Nat) (Option.some Jvm.ClassFile.FieldType.long)) ∈ wG := wgM4 20 rfl rfl
theorem wt_741 : (Jvm.Cond.constantLong "EvenScatterModel" (70 : Nat) (-1000 : Int64)) ∈ wG := wgM4 21 rfl rfl
theorem wt_742 : (Jvm.Cond.methodLink "EvenScatterModel" (147 : Nat) ({ cls := "EvenScatterModel", name := "cornerLess", desc := "(IZ)J" } : Jvm.MethodName)) ∈ wG := wgM4 22 rfl rfl
theorem wt_744 : (Jvm.Cond.instanceMethod ({ cls := "EvenScatterModel", name := "cornerLess", desc := "(IZ)J" } : Jvm.MethodName)) ∈ wG := wgM4 24 rfl rfl
theorem wt_745 : (Jvm.Cond.code ({ cls := "EvenScatterModel", name := "cornerLess", desc := "(IZ)J" } : Jvm.MethodName) prog_7_method_41_code (6 : Nat) (Option.some Jvm.ClassFile.FieldType.long)) ∈ wG := wgM4 25 rfl rfl
theorem wt_746 : (Jvm.Cond.methodLink "EvenScatterModel" (136 : Nat) ({ cls := "EvenScatterModel", name := "inCorner", desc := "(IZ)I" } : Jvm.MethodName)) ∈ wG := wgM4 26 rfl rfl
theorem wt_748 : (Jvm.Cond.instanceMethod ({ cls := "EvenScatterModel", name := "inCorner", desc := "(IZ)I" } : Jvm.MethodName)) ∈ wG := wgM4 28 rfl rfl
theorem wt_749 : (Jvm.Cond.code ({ cls := "EvenScatterModel", name := "inCorner", desc := "(IZ)I" } : Jvm.MethodName) prog_7_method_40_code (8 : Nat) (Option.some Jvm.ClassFile.FieldType.int)) ∈ wG := wgM4 29 rfl rfl
theorem wt_750 : (Jvm.Cond.methodLink "EvenScatterModel" (140 : Nat) ({ cls := "EvenScatterModel", name := "power", desc := "(JI)J" } : Jvm.MethodName)) ∈ wG := wgM4 30 rfl rfl
theorem wt_751 : (Jvm.Cond.static ({ cls := "EvenScatterModel", name := "power", desc := "(JI)J" } : Jvm.MethodName)) ∈ wG := wgM4 31 rfl rfl
theorem wt_752 : (Jvm.Cond.code ({ cls := "EvenScatterModel", name := "power", desc := "(JI)J" } : Jvm.MethodName) prog_7_method_37_code (6 : Nat) (Option.some Jvm.ClassFile.FieldType.long)) ∈ wG := wgM4 32 rfl rfl
theorem wt_753 : (Jvm.Cond.methodLink "EvenScatterModel" (151 : Nat) ({ cls := "EvenScatterModel", name := "ratio", desc := "(JJZ)J" } : Jvm.MethodName)) ∈ wG := wgM4 33 rfl rfl
theorem wt_754 : (Jvm.Cond.static ({ cls := "EvenScatterModel", name := "ratio", desc := "(JJZ)J" } : Jvm.MethodName)) ∈ wG := wgM4 34 rfl rfl
theorem wt_755 : (Jvm.Cond.code ({ cls := "EvenScatterModel", name := "ratio", desc := "(JJZ)J" } : Jvm.MethodName) prog_7_method_39_code (7 : Nat) (Option.some Jvm.ClassFile.FieldType.long)) ∈ wG := wgM4 35 rfl rfl
theorem wt_756 : (Jvm.Cond.methodLink "EvenScatterModel" (132 : Nat) ({ cls := "EvenScatterModel", name := "common", desc := "(JJ)J" } : Jvm.MethodName)) ∈ wG := wgM4 36 rfl rfl
theorem wt_757 : (Jvm.Cond.static ({ cls := "EvenScatterModel", name := "common", desc := "(JJ)J" } : Jvm.MethodName)) ∈ wG := wgM4 37 rfl rfl
theorem wt_758 : (Jvm.Cond.code ({ cls := "EvenScatterModel", name := "common", desc := "(JJ)J" } : Jvm.MethodName) prog_7_method_38_code (10 : Nat) (Option.some Jvm.ClassFile.FieldType.long)) ∈ wG := wgM4 38 rfl rfl
theorem wt_759 : (Jvm.Cond.methodLink "EvenScatterLaw" (113 : Nat) ({ cls := "EvenScatterModel", name := "worst", desc := "(II)J" } : Jvm.MethodName)) ∈ wG := wgM4 39 rfl rfl
theorem wt_760 : (Jvm.Cond.instanceMethod ({ cls := "EvenScatterModel", name := "worst", desc := "(II)J" } : Jvm.MethodName)) ∈ wG := wgM4 40 rfl rfl
theorem wt_761 : (Jvm.Cond.selects "EvenScatterModel" ({ cls := "EvenScatterModel", name := "worst", desc := "(II)J" } : Jvm.MethodName) ({ cls := "EvenScatterModel", name := "worst", desc := "(II)J" } : Jvm.MethodName)) ∈ wG := wgM4 41 rfl rfl
theorem wt_762 : (Jvm.Cond.code ({ cls := "EvenScatterModel", name := "worst", desc := "(II)J" } : Jvm.MethodName) prog_7_method_43_code (17 : Nat) (Option.some Jvm.ClassFile.FieldType.long)) ∈ wG := wgM4 42 rfl rfl
theorem wt_763 : (Jvm.Cond.methodLink "EvenScatterLaw" (117 : Nat) ({ cls := "EvenScatterModel", name := "square", desc := "(II)J" } : Jvm.MethodName)) ∈ wG := wgM4 43 rfl rfl
theorem wt_764 : (Jvm.Cond.instanceMethod ({ cls := "EvenScatterModel", name := "square", desc := "(II)J" } : Jvm.MethodName)) ∈ wG := wgM4 44 rfl rfl
theorem wt_765 : (Jvm.Cond.selects "EvenScatterModel" ({ cls := "EvenScatterModel", name := "square", desc := "(II)J" } : Jvm.MethodName) ({ cls := "EvenScatterModel", name := "square", desc := "(II)J" } : Jvm.MethodName)) ∈ wG := wgM4 45 rfl rfl
theorem wt_766 : (Jvm.Cond.code ({ cls := "EvenScatterModel", name := "square", desc := "(II)J" } : Jvm.MethodName) prog_7_method_44_code (19 : Nat) (Option.some Jvm.ClassFile.FieldType.long)) ∈ wG := wgM4 46 rfl rfl
theorem wt_767 : (Jvm.Cond.constantLong "EvenScatterModel" (155 : Nat) (3 : Int64)) ∈ wG := wgM4 47 rfl rfl
theorem wt_768 : (Jvm.Cond.constantLong "EvenScatterModel" (157 : Nat) (2 : Int64)) ∈ wG := wgM4 48 rfl rfl
theorem wt_769 : (Jvm.Cond.methodLink "EvenScatterLaw" (122 : Nat) ({ cls := "EvenScatterModel", name := "wave", desc := "(I)J" } : Jvm.MethodName)) ∈ wG := wgM4 49 rfl rfl
theorem wt_770 : (Jvm.Cond.instanceMethod ({ cls := "EvenScatterModel", name := "wave", desc := "(I)J" } : Jvm.MethodName)) ∈ wG := wgM4 50 rfl rfl
theorem wt_771 : (Jvm.Cond.selects "EvenScatterModel" ({ cls := "EvenScatterModel", name := "wave", desc := "(I)J" } : Jvm.MethodName) ({ cls := "EvenScatterModel", name := "wave", desc := "(I)J" } : Jvm.MethodName)) ∈ wG := wgM4 51 rfl rfl
theorem wt_772 : (Jvm.Cond.code ({ cls := "EvenScatterModel", name := "wave", desc := "(I)J" } : Jvm.MethodName) prog_7_method_46_code (3 : Nat) (Option.some Jvm.ClassFile.FieldType.long)) ∈ wG := wgM4 52 rfl rfl
theorem wt_773 : (Jvm.Cond.methodLink "EvenScatterModel" (161 : Nat) ({ cls := "EvenScatterModel", name := "waveOf", desc := "(I)J" } : Jvm.MethodName)) ∈ wG := wgM4 53 rfl rfl
theorem wt_775 : (Jvm.Cond.instanceMethod ({ cls := "EvenScatterModel", name := "waveOf", desc := "(I)J" } : Jvm.MethodName)) ∈ wG := wgM4 55 rfl rfl
theorem wt_776 : (Jvm.Cond.code ({ cls := "EvenScatterModel", name := "waveOf", desc := "(I)J" } : Jvm.MethodName) prog_7_method_45_code (7 : Nat) (Option.some Jvm.ClassFile.FieldType.long)) ∈ wG := wgM4 56 rfl rfl
theorem wt_777 : (Jvm.Cond.constantLong "EvenScatterModel" (159 : Nat) (-1 : Int64)) ∈ wG := wgM4 57 rfl rfl
theorem wt_778 : (Jvm.Cond.methodLink "EvenScatterLaw" (127 : Nat) ({ cls := "EvenScatterModel", name := "waves", desc := "(III)J" } : Jvm.MethodName)) ∈ wG := wgM4 58 rfl rfl
theorem wt_779 : (Jvm.Cond.instanceMethod ({ cls := "EvenScatterModel", name := "waves", desc := "(III)J" } : Jvm.MethodName)) ∈ wG := wgM4 59 rfl rfl
theorem wt_780 : (Jvm.Cond.selects "EvenScatterModel" ({ cls := "EvenScatterModel", name := "waves", desc := "(III)J" } : Jvm.MethodName) ({ cls := "EvenScatterModel", name := "waves", desc := "(III)J" } : Jvm.MethodName)) ∈ wG := wgM4 60 rfl rfl
theorem wt_781 : (Jvm.Cond.code ({ cls := "EvenScatterModel", name := "waves", desc := "(III)J" } : Jvm.MethodName) prog_7_method_48_code (7 : Nat) (Option.some Jvm.ClassFile.FieldType.long)) ∈ wG := wgM4 61 rfl rfl
theorem wt_782 : (Jvm.Cond.methodLink "EvenScatterModel" (164 : Nat) ({ cls := "EvenScatterModel", name := "ones", desc := "(I)I" } : Jvm.MethodName)) ∈ wG := wgM4 62 rfl rfl
theorem wt_783 : (Jvm.Cond.static ({ cls := "EvenScatterModel", name := "ones", desc := "(I)I" } : Jvm.MethodName)) ∈ wG := wgM4 63 rfl rfl
theorem wt_784 : (Jvm.Cond.code ({ cls := "EvenScatterModel", name := "ones", desc := "(I)I" } : Jvm.MethodName) prog_7_method_47_code (3 : Nat) (Option.some Jvm.ClassFile.FieldType.int)) ∈ wG := wgM4 64 rfl rfl
theorem wt_785 : (Jvm.Cond.constantLong "EvenScatterModel" (167 : Nat) (-9 : Int64)) ∈ wG := wgM4 65 rfl rfl
theorem wt_786 : (Jvm.Cond.methodLink "EvenScatterLaw" (131 : Nat) ({ cls := "EvenScatterModel", name := "sum", desc := "(II)J" } : Jvm.MethodName)) ∈ wG := wgM4 66 rfl rfl
theorem wt_787 : (Jvm.Cond.instanceMethod ({ cls := "EvenScatterModel", name := "sum", desc := "(II)J" } : Jvm.MethodName)) ∈ wG := wgM4 67 rfl rfl
theorem wt_788 : (Jvm.Cond.selects "EvenScatterModel" ({ cls := "EvenScatterModel", name := "sum", desc := "(II)J" } : Jvm.MethodName) ({ cls := "EvenScatterModel", name := "sum", desc := "(II)J" } : Jvm.MethodName)) ∈ wG := wgM4 68 rfl rfl
theorem wt_789 : (Jvm.Cond.code ({ cls := "EvenScatterModel", name := "sum", desc := "(II)J" } : Jvm.MethodName) prog_7_method_49_code (14 : Nat) (Option.some Jvm.ClassFile.FieldType.long)) ∈ wG := wgM4 69 rfl rfl
theorem wt_790 : (Jvm.Cond.methodLink "EvenScatterLaw" (135 : Nat) ({ cls := "EvenScatterModel", name := "status", desc := "(I)I" } : Jvm.MethodName)) ∈ wG := wgM4 70 rfl rfl
theorem wt_791 : (Jvm.Cond.instanceMethod ({ cls := "EvenScatterModel", name := "status", desc := "(I)I" } : Jvm.MethodName)) ∈ wG := wgM4 71 rfl rfl
theorem wt_792 : (Jvm.Cond.selects "EvenScatterModel" ({ cls := "EvenScatterModel", name := "status", desc := "(I)I" } : Jvm.MethodName) ({ cls := "EvenScatterModel", name := "status", desc := "(I)I" } : Jvm.MethodName)) ∈ wG := wgM4 72 rfl rfl
theorem wt_793 : (Jvm.Cond.code ({ cls := "EvenScatterModel", name := "status", desc := "(I)I" } : Jvm.MethodName) prog_7_method_50_code (2 : Nat) (Option.some Jvm.ClassFile.FieldType.int)) ∈ wG := wgM4 73 rfl rfl
theorem wt_794 : (Jvm.Cond.constantLong "EvenScatterModel" (169 : Nat) (11 : Int64)) ∈ wG := wgM4 74 rfl rfl
theorem wt_795 : (Jvm.Cond.constantLong "EvenScatterModel" (171 : Nat) (16 : Int64)) ∈ wG := wgM4 75 rfl rfl
theorem wt_796 : (Jvm.Cond.constantLong "EvenScatterLaw" (28 : Nat) (4294967295 : Int64)) ∈ wG := wgM4 76 rfl rfl
theorem inX0 : ∀ w ∈ wsX00, w ∈ wG := fun w h => (goodIn_of (big := lw_tbl) wsX00 (by decide +kernel) w h) |> fun q => List.mem_filter.mpr ⟨q.1, List.all_eq_true.mp (show wsX00.all goodWord = true by decide +kernel) w h⟩
theorem inX1 : ∀ w ∈ wsX10, w ∈ wG := fun w h => (goodIn_of (big := lw_tbl) wsX10 (by decide +kernel) w h) |> fun q => List.mem_filter.mpr ⟨q.1, List.all_eq_true.mp (show wsX10.all goodWord = true by decide +kernel) w h⟩
theorem inX2 : ∀ w ∈ wsX20, w ∈ wG := fun w h => (goodIn_of (big := lw_tbl) wsX20 (by decide +kernel) w h) |> fun q => List.mem_filter.mpr ⟨q.1, List.all_eq_true.mp (show wsX20.all goodWord = true by decide +kernel) w h⟩
theorem inX3 : ∀ w ∈ wsX30, w ∈ wG := fun w h => (goodIn_of (big := lw_tbl) wsX30 (by decide +kernel) w h) |> fun q => List.mem_filter.mpr ⟨q.1, List.all_eq_true.mp (show wsX30.all goodWord = true by decide +kernel) w h⟩
theorem inX4 : ∀ w ∈ wsX40, w ∈ wG := fun w h => (goodIn_of (big := lw_tbl) wsX40 (by decide +kernel) w h) |> fun q => List.mem_filter.mpr ⟨q.1, List.all_eq_true.mp (show wsX40.all goodWord = true by decide +kernel) w h⟩
theorem inX5 : ∀ w ∈ wsX50, w ∈ wG := fun w h => (goodIn_of (big := lw_tbl) wsX50 (by decide +kernel) w h) |> fun q => List.mem_filter.mpr ⟨q.1, List.all_eq_true.mp (show wsX50.all goodWord = true by decide +kernel) w h⟩
end
section
/-! The memory: tags and lengths S, ints I, longs J, references R, by address and place. Tags: 1 to 6 the objects of vwCl's kinds 0 to 5; 7 int rows, 8 long rows, 9 boolean rows, 10 rows of Scatters. -/
abbrev MI : Type := Nat → Nat → Int32
abbrev MJ : Type := Nat → Nat → Int64
abbrev MR : Type := Nat → Nat → Option Nat
abbrev MS : Type := Nat → Nat × Nat
abbrev TC : Type := va_G × ClassId × ClassId × ClassId × ClassId
def mu {α : Type} (f : Nat → Nat → α) (a k : Nat) (v : α) : Nat → Nat → α := fun b j => if b = a ∧ j = k then v else f b j
def su (S : MS) (a t n : Nat) : MS := fun b => if b = a then (t, n) else S b
/-- a new cell's places -/
def mz {α : Type} (f : Nat → Nat → α) (a : Nat) (d : α) : Nat → Nat → α := fun b j => if b = a then d else f b j
theorem mu_ne {α : Type} (f : Nat → Nat → α) {a k : Nat} (v : α) {b : Nat} (h : b ≠ a) : mu f a k v b = f b := by
  funext j; simp [mu, h]
theorem mu_at {α : Type} (f : Nat → Nat → α) (a k : Nat) (v : α) : mu f a k v a k = v := by simp [mu]
theorem mu_other {α : Type} (f : Nat → Nat → α) {a k : Nat} (v : α) {b j : Nat} (h : ¬ (b = a ∧ j = k)) : mu f a k v b j = f b j := by simp [mu, h]
theorem mu_row {α : Type} (f : Nat → Nat → α) (a k : Nat) (v : α) : mu f a k v a = fun j => if j = k then v else f a j := by
  funext j; simp [mu]
theorem mz_ne {α : Type} (f : Nat → Nat → α) {a : Nat} (d : α) {b : Nat} (h : b ≠ a) : mz f a d b = f b := by
  funext j; simp [mz, h]
theorem mz_at {α : Type} (f : Nat → Nat → α) (a : Nat) (d : α) (j : Nat) : mz f a d a j = d := by simp [mz]
theorem su_ne (S : MS) {a t n b : Nat} (h : b ≠ a) : su S a t n b = S b := by simp [su, h]
theorem su_at (S : MS) (a t n : Nat) : su S a t n a = (t, n) := by simp [su]
def cT (T : TC) (S : MS) (I : MI) (J : MJ) (R : MR) (a : Nat) : va_E :=
  match (S a).1 with
  | 1 => .inr (0, [va_rf (R a 0), .long (J a 1), .int (I a 2), va_rf (R a 3), va_rf (R a 4), .int (I a 5), .int (I a 6)])
  | 2 => .inr (1, [va_rf (R a 0), va_rf (R a 1), .int (I a 2), .int (I a 3), .int (I a 4)])
  | 3 => .inr (2, [.int (I a 0), .int (I a 1), .int (I a 2), .int (I a 3), .int (I a 4), va_rf (R a 5), va_rf (R a 6), va_rf (R a 7), va_rf (R a 8)])
  | 4 => .inr (3, [va_rf (R a 0), va_rf (R a 1), va_rf (R a 2)])
  | 5 => .inr (4, [va_rf (R a 0), va_rf (R a 1), va_rf (R a 2), va_rf (R a 3), va_rf (R a 4), va_rf (R a 5), .int (I a 6), .int (I a 7)])
  | 6 => .inr (5, [.int (I a 0), va_rf (R a 1), va_rf (R a 2), va_rf (R a 3), va_rf (R a 4), va_rf (R a 5), va_rf (R a 6), va_rf (R a 7), va_rf (R a 8), va_rf (R a 9), va_rf (R a 10), va_rf (R a 11), va_rf (R a 12), .int (I a 13), va_rf (R a 14), va_rf (R a 15), va_rf (R a 16), va_rf (R a 17), va_rf (R a 18), va_rf (R a 19), va_rf (R a 20)])
  | 7 => .inl (T.2.1, (S a).2, .inl (I a))
  | 8 => .inl (T.2.2.1, (S a).2, .inr (.inl (J a)))
  | 9 => .inl (T.2.2.2.1, (S a).2, .inl (I a))
  | 10 => .inl (T.2.2.2.2, (S a).2, .inr (.inr (.inr (.inr (R a)))))
  | _ => .inr (99, [])
theorem cT_congr (T : TC) {S S' : MS} {I I' : MI} {J J' : MJ} {R R' : MR} {b : Nat} (h0 : S' b = S b) (h1 : I' b = I b) (h2 : J' b = J b) (h3 : R' b = R b) : cT T S' I' J' R' b = cT T S I J R b := by
  simp only [cT, h0, h1, h2, h3]
def tys4 (T : TC) : List (ClassId × FieldType) := [(T.2.1, .int), (T.2.2.1, .long), (T.2.2.2.1, .boolean), (T.2.2.2.2, .object RX2)]
def Rep (T : TC) (B z : Nat) (S : MS) (I : MI) (J : MJ) (R : MR) (H : Heap) : Prop := H.size = z ∧ B ≤ z ∧ ∀ a, (S a).1 ≠ 0 → B ≤ a ∧ va_at T.1 vwCl (a, cT T S I J R a) H
theorem Rep.at {T : TC} {B z : Nat} {S : MS} {I : MI} {J : MJ} {R : MR} {H : Heap} (h : Rep T B z S I J R H) {a : Nat} (ha : (S a).1 ≠ 0) {e : va_E} (he : cT T S I J R a = e) : va_at T.1 vwCl (a, e) H := he ▸ (h.2.2 a ha).2
theorem Rep.put {T : TC} {B z : Nat} {S : MS} {I I' : MI} {J J' : MJ} {R R' : MR} {H H1 : Heap} (h : Rep T B z S I J R H) {a : Nat} (hz : H1.size = H.size) (oq : ∀ q : Nat, q ≠ a → H1[q]? = H[q]?) (he : va_at T.1 vwCl (a, cT T S I' J' R' a) H1) (ho : ∀ b, b ≠ a → cT T S I' J' R' b = cT T S I J R b) : Rep T B z S I' J' R' H1 := by
  refine ⟨hz.trans h.1, h.2.1, fun b h1 => ⟨(h.2.2 b h1).1, ?_⟩⟩
  by_cases hb : b = a
  · subst hb; exact he
  · rw [ho b hb]
    exact ((h.2.2 b h1).2).kept (oq b hb)
theorem Rep.push {T : TC} {B z : Nat} {S S' : MS} {I I' : MI} {J J' : MJ} {R R' : MR} {H H1 : Heap} (h : Rep T B z S I J R H) (hz : H1.size = z + 1) (oq : ∀ q : Nat, q < z → H1[q]? = H[q]?) (he : va_at T.1 vwCl (z, cT T S' I' J' R' z) H1) (ho : ∀ b, b ≠ z → S' b = S b ∧ cT T S' I' J' R' b = cT T S I J R b) : Rep T B (z + 1) S' I' J' R' H1 := by
  refine ⟨hz, Nat.le_trans h.2.1 (Nat.le_succ z), fun b h1 => ?_⟩
  by_cases hb : b = z
  · subst hb; exact ⟨h.2.1, he⟩
  · obtain ⟨o1, o2⟩ := ho b hb
    rw [o1] at h1
    obtain ⟨h3, h4⟩ := h.2.2 b h1
    have hlt : b < H.size := h4.lt
    rw [h.1] at hlt
    rw [o2]
    exact ⟨h3, h4.kept (oq b hlt)⟩
/-- what the tables say, of any state of the run -/
def Kx (T : TC) (U : State) : Prop := va_K T.1 vwCl (tys4 T) U ∧ va_AO RX2 U ∧ va_Nw (.methodLinkNest "EvenScatter" 17 ⟨"EvenScatter$Tray", "<init>", "()V"⟩ "EvenScatter") U ∧ va_Nw (.methodLinkNest "EvenScatter" 24 ⟨"EvenScatter$Ranks", "<init>", "()V"⟩ "EvenScatter") U ∧ va_Nw (.methodLinkNest "EvenScatter" 35 ⟨"EvenScatter$Corners", "<init>", "()V"⟩ "EvenScatter") U ∧ va_Nw (.methodLinkNest "EvenScatter$Corners" 33 ⟨"EvenScatter", "powerOf", "(JI)J"⟩ "EvenScatter") U ∧ va_Nw (.methodLinkNest "EvenScatter$Scatter" 77 ⟨"EvenScatter", "firstOf", "(JI)I"⟩ "EvenScatter") U ∧ va_Nw (.methodLinkNest "EvenScatter$Tray" 43 ⟨"EvenScatter", "powerOf", "(JI)J"⟩ "EvenScatter") U
theorem Kx.warm {T : TC} {s U : State} (hW : s.WarmedH U.vm) (h : Kx T s) : Kx T U := ⟨h.1.moved hW.alike, h.2.1.moved hW.alike, h.2.2.1.warmM hW, h.2.2.2.1.warmM hW, h.2.2.2.2.1.warmM hW, h.2.2.2.2.2.1.warmM hW, h.2.2.2.2.2.2.1.warmM hW, h.2.2.2.2.2.2.2.warmM hW⟩
theorem Kx.calling {T : TC} {U : State} (h : Kx T U) (g : JFrame) (mk : MethodId) (a : Array Value) : Kx T (U.calling g mk a) := ⟨va_K.moved (u := U) (U := U.calling g mk a) (Vm.Alike.refl U.vm) h.1, va_AO.moved (u := U) (U := U.calling g mk a) (Vm.Alike.refl U.vm) h.2.1, h.2.2.1.same rfl rfl, h.2.2.2.1.same rfl rfl, h.2.2.2.2.1.same rfl rfl, h.2.2.2.2.2.1.same rfl rfl, h.2.2.2.2.2.2.1.same rfl rfl, h.2.2.2.2.2.2.2.same rfl rfl⟩
/-! locals by their places -/
def isC2 (o : Option (Option Value)) : Bool := match o with
  | some (some v) => v.category == 2
  | _ => false
def lkill (lv : List (Option Value)) (i : Nat) : List (Option Value) := match i with
  | 0 => lv
  | j + 1 => bif isC2 lv[j]? then lv.set j none else lv
def sto1 (lv : List (Option Value)) (i : Nat) (v : Value) : List (Option Value) := (lkill lv i).set i (some v)
def sto2 (lv : List (Option Value)) (i : Nat) (v : Value) : List (Option Value) := ((lkill lv i).set i (some v)).set (i + 1) none
def lvh (ls : Array Slot) (nL : Nat) (lv : List (Option Value)) : Prop := ls.size = nL ∧ lv_wf ls ∧ ∀ (i : Nat) (v : Value), lv[i]? = some (some v) → ls[i]? = some (.val v)
def asc (lv : List (Option Value)) : List (Nat × Value) := (List.range lv.length).filterMap (fun j => match lv[j]? with
  | some (some v) => some (j, v)
  | _ => none)
theorem asc_mem {lv : List (Option Value)} {q : Nat × Value} : q ∈ asc lv ↔ lv[q.1]? = some (some q.2) := by
  constructor
  · intro h
    obtain ⟨j, -, hj⟩ := List.mem_filterMap.mp h
    cases hq : lv[j]? with
    | none => rw [hq] at hj; cases hj
    | some o =>
      cases o with
      | none => rw [hq] at hj; cases hj
      | some v => rw [hq] at hj; cases hj; exact hq
  · intro h
    refine List.mem_filterMap.mpr ⟨q.1, List.mem_range.mpr (List.getElem?_eq_some_iff.mp h).1, ?_⟩
    rw [h]
theorem lvh.has {ls : Array Slot} {nL : Nat} {lv : List (Option Value)} (h : lvh ls nL lv) : lv_has ls nL (asc lv) := ⟨h.1, h.2.1, fun q hq => h.2.2 q.1 q.2 (asc_mem.mp hq)⟩
theorem lkill_in {lv : List (Option Value)} {i j : Nat} {v : Value} (h : (lkill lv i)[j]? = some (some v)) : lv[j]? = some (some v) ∧ ¬ (j + 1 = i ∧ v.category = 2) := by
  cases i with
  | zero => exact ⟨h, fun q => by omega⟩
  | succ i =>
    simp only [lkill] at h
    cases hc : isC2 lv[i]? with
    | true =>
      rw [hc, cond_true] at h
      by_cases hj : j = i
      · subst hj
        by_cases hl : j < lv.length
        · rw [List.getElem?_set_self hl] at h; cases h
        · rw [List.getElem?_eq_none (by simp; omega)] at h; cases h
      · rw [List.getElem?_set_ne (Ne.symm hj)] at h
        exact ⟨h, fun q => hj (by omega)⟩
    | false =>
      rw [hc, cond_false] at h
      refine ⟨h, fun q => ?_⟩
      have hj : j = i := by omega
      subst hj
      rw [h] at hc
      simp [isC2, q.2] at hc
theorem lvh_s1 {ls' : Array Slot} {nL : Nat} {lv : List (Option Value)} {i : Nat} {v : Value} (h : lv_has ls' nL ((i, v) :: (asc lv).filter (fun q => !(q.1 == i) && !(q.1 + 1 == i && q.2.category == 2)))) : lvh ls' nL (sto1 lv i v) := by
  refine ⟨h.1, h.2.1, fun j u hj => ?_⟩
  by_cases hji : j = i
  · subst hji
    have hu : v = u := by
      by_cases hl : j < (lkill lv j).length
      · rw [sto1, List.getElem?_set_self hl] at hj; exact Option.some.inj (Option.some.inj hj)
      · rw [List.getElem?_eq_none (by simp [sto1]; omega)] at hj; cases hj
    subst hu
    exact h.2.2 (j, v) List.mem_cons_self
  · rw [sto1, List.getElem?_set_ne (Ne.symm hji)] at hj
    obtain ⟨h1, h2⟩ := lkill_in hj
    refine h.2.2 (j, u) (List.mem_cons_of_mem _ (List.mem_filter.mpr ⟨asc_mem.mpr h1, ?_⟩))
    have : (j == i) = false := by simpa using hji
    simp only [this]
    simp only [Bool.not_false, Bool.true_and, Bool.not_eq_true', Bool.and_eq_false_iff, beq_eq_false_iff_ne, ne_eq]
    exact Decidable.not_and_iff_or_not.mp h2
theorem lvh_s2 {ls' : Array Slot} {nL : Nat} {lv : List (Option Value)} {i : Nat} {v : Value} (h : lv_has ls' nL ((i, v) :: (asc lv).filter (fun q => !(q.1 == i) && (!(q.1 == i + 1) && !(q.1 + 1 == i && q.2.category == 2))))) : lvh ls' nL (sto2 lv i v) := by
  refine ⟨h.1, h.2.1, fun j u hj => ?_⟩
  have hj1 : j ≠ i + 1 := by
    intro q
    subst q
    by_cases hl : i + 1 < ((lkill lv i).set i (some v)).length
    · rw [sto2, List.getElem?_set_self hl] at hj; cases hj
    · rw [List.getElem?_eq_none (by simp only [sto2, List.length_set] at hl ⊢; omega)] at hj; cases hj
  rw [sto2, List.getElem?_set_ne (Ne.symm hj1)] at hj
  by_cases hji : j = i
  · subst hji
    have hu : v = u := by
      by_cases hl : j < (lkill lv j).length
      · rw [List.getElem?_set_self hl] at hj; exact Option.some.inj (Option.some.inj hj)
      · rw [List.getElem?_eq_none (by simp; omega)] at hj; cases hj
    subst hu
    exact h.2.2 (j, v) List.mem_cons_self
  · rw [List.getElem?_set_ne (Ne.symm hji)] at hj
    obtain ⟨h1, h2⟩ := lkill_in hj
    refine h.2.2 (j, u) (List.mem_cons_of_mem _ (List.mem_filter.mpr ⟨asc_mem.mpr h1, ?_⟩))
    have e1 : (j == i) = false := by simpa using hji
    have e2 : (j == i + 1) = false := by simpa using hj1
    simp only [e1, e2]
    simp only [Bool.not_false, Bool.true_and, Bool.not_eq_true', Bool.and_eq_false_iff, beq_eq_false_iff_ne, ne_eq]
    exact Decidable.not_and_iff_or_not.mp h2
/-- a method's locals at its entry -/
def entA : List Value → List (Option Value)
  | [] => []
  | v :: vs => bif v.category == 2 then some v :: none :: entA vs else some v :: entA vs
def ent (vs : List Value) (n : Nat) : List (Option Value) := entA vs ++ List.replicate (n - (entA vs).length) none
theorem entA_in : ∀ (vs : List Value) (i j : Nat) (u : Value), (entA vs)[j]? = some (some u) → (i + j, u) ∈ lv_args i vs
  | [], i, j, u, h => by simp [entA] at h
  | v :: vs, i, j, u, h => by
    simp only [entA] at h
    simp only [lv_args]
    by_cases hc : v.category = 2
    · simp only [hc, beq_self_eq_true, cond_true] at h
      rw [if_pos hc]
      match j, h with
      | 0, h => simp at h; subst h; exact List.mem_cons_self
      | 1, h => simp at h
      | j + 2, h =>
        simp only [List.getElem?_cons_succ] at h
        have := entA_in vs (i + 2) j u h
        rw [show i + (j + 2) = i + 2 + j by omega]
        exact List.mem_cons_of_mem _ this
    · have hb : (v.category == 2) = false := by simpa using hc
      simp only [hb, cond_false] at h
      rw [if_neg hc]
      match j, h with
      | 0, h => simp at h; subst h; exact List.mem_cons_self
      | j + 1, h =>
        simp only [List.getElem?_cons_succ] at h
        have := entA_in vs (i + 1) j u h
        rw [show i + (j + 1) = i + 1 + j by omega]
        exact List.mem_cons_of_mem _ this
theorem lvh_ent {ls : Array Slot} {n : Nat} {vs : List Value} (h : lv_has ls n (lv_args 0 vs)) : lvh ls n (ent vs n) := by
  refine ⟨h.1, h.2.1, fun j u hj => ?_⟩
  have h1 : (entA vs)[j]? = some (some u) := by
    unfold ent at hj
    by_cases hl : j < (entA vs).length
    · rw [List.getElem?_append_left hl] at hj; exact hj
    · rw [List.getElem?_append_right (by omega)] at hj
      have := List.mem_of_getElem? hj
      have := List.eq_of_mem_replicate this
      cases this
  have := entA_in vs 0 j u h1
  rw [Nat.zero_add] at this
  exact h.2.2 (j, u) this
end
section
/-! V: the machine, at pc with locals lv and stack st over the memory, comes to its end -/
abbrev CX : Type := Program × Launch × Env × Room × State × MethodId × Array Value × List Frame × Method × Code × Nat × TC × Nat × (State → Prop)
def V (X : CX) (kc ks z : Nat) (S : MS) (I : MI) (J : MJ) (R : MR) (pc : Nat) (lv : List (Option Value)) (st : List Value) : Prop :=
  match X with
  | (p, l, e, Rm, s, m, args, below, meth, c, nL, T, B, Q) => ∀ (H : Heap) (locs : List Loc) (ls : Array Slot), Rep T B z S I J R H → va_S (fun q => B ≤ q) s.heap H locs → lvh ls nL lv → W p l e Rm s m args below meth c H locs kc ks Q (F0 m pc ls st)
/-- what holds throughout a method's body: the machine, its bytes, the tables' words -/
def Cx (X : CX) (own : String) (cc : ByteArray) (rm : Room) (T0 : TC) (B0 nL0 : Nat) : Prop :=
  match X with
  | (p, _, _, Rm, s, m, args, _, meth, c, nL, T, B, _) => p.tables.exec = Jvm.exec ∧ c.code = cc ∧ c.maxLocals = nL ∧ s.vm.findClass own = some m.cls ∧ (∀ w ∈ wG, w.before args s = true) ∧ Kx T s ∧ B ≤ s.heap.size ∧ meth.locks = false ∧ Rm = rm ∧ T = T0 ∧ B = B0 ∧ nL = nL0
section VR
variable {X : CX} {own : String} {cc : ByteArray} {rm : Room} {T0 : TC} {B0 nL0 : Nat} {kc ks z : Nat} {S : MS} {I : MI} {J : MJ} {R : MR} {pc : Nat} {lv : List (Option Value)} {st : List Value}
theorem v_iconst (C : Cx X own cc rm T0 B0 nL0) {n : Int} {v : Int32} (d : decode cc pc = .ok (.iconst n, 1)) (hv : Int32.ofInt n = v) (k : V X kc ks z S I J R (pc + 1) lv (.int v :: st)) : V X kc ks z S I J R (pc) lv st := by
  obtain ⟨p, l, e, Rm, s, m, args, below, meth, c, nL, T, B, Q⟩ := X
  intro H locs ls hR hS hl
  exact lv_iconst C.1 C.2.1 d hv (k H locs ls hR hS hl)
theorem v_bipush (C : Cx X own cc rm T0 B0 nL0) {n : Int} {v : Int32} (d : decode cc pc = .ok (.bipush n, 2)) (hv : (Int8.ofInt n).toInt32 = v) (k : V X kc ks z S I J R (pc + 2) lv (.int v :: st)) : V X kc ks z S I J R (pc) lv st := by
  obtain ⟨p, l, e, Rm, s, m, args, below, meth, c, nL, T, B, Q⟩ := X
  intro H locs ls hR hS hl
  exact lv_bipush C.1 C.2.1 d hv (k H locs ls hR hS hl)
theorem v_sipush (C : Cx X own cc rm T0 B0 nL0) {n : Int} {v : Int32} (d : decode cc pc = .ok (.sipush n, 3)) (hv : (Int16.ofInt n).toInt32 = v) (k : V X kc ks z S I J R (pc + 3) lv (.int v :: st)) : V X kc ks z S I J R (pc) lv st := by
  obtain ⟨p, l, e, Rm, s, m, args, below, meth, c, nL, T, B, Q⟩ := X
  intro H locs ls hR hS hl
  exact lv_sipush C.1 C.2.1 d hv (k H locs ls hR hS hl)
theorem v_lconst (C : Cx X own cc rm T0 B0 nL0) {n : Fin 2} {v : Int64} (d : decode cc pc = .ok (.lconst n, 1)) (hv : Int64.ofNat (n : Nat) = v) (k : V X kc ks z S I J R (pc + 1) lv (.long v :: st)) : V X kc ks z S I J R (pc) lv st := by
  obtain ⟨p, l, e, Rm, s, m, args, below, meth, c, nL, T, B, Q⟩ := X
  intro H locs ls hR hS hl
  exact lv_lconst C.1 C.2.1 d hv (k H locs ls hR hS hl)
theorem v_null (C : Cx X own cc rm T0 B0 nL0)  (d : decode cc pc = .ok (.aconst_null, 1)) (k : V X kc ks z S I J R (pc + 1) lv (.null :: st)) : V X kc ks z S I J R (pc) lv st := by
  obtain ⟨p, l, e, Rm, s, m, args, below, meth, c, nL, T, B, Q⟩ := X
  intro H locs ls hR hS hl
  exact lv_null C.1 C.2.1 d (k H locs ls hR hS hl)
theorem v_ldc (C : Cx X own cc rm T0 B0 nL0) {ix : Nat} {v : Int32} (d : decode cc pc = .ok (.ldc ix, 2)) (hc : Cond.constant own ix v ∈ wG) (k : V X kc ks z S I J R (pc + 2) lv (.int v :: st)) : V X kc ks z S I J R (pc) lv st := by
  obtain ⟨p, l, e, Rm, s, m, args, below, meth, c, nL, T, B, Q⟩ := X
  intro H locs ls hR hS hl
  exact lv_ldc C.1 C.2.1 C.2.2.2.1 (C.2.2.2.2.1 _ hc) d (k H locs ls hR hS hl)
theorem v_ldcw (C : Cx X own cc rm T0 B0 nL0) {ix : Nat} {v : Int32} (d : decode cc pc = .ok (.ldc_w ix, 3)) (hc : Cond.constant own ix v ∈ wG) (k : V X kc ks z S I J R (pc + 3) lv (.int v :: st)) : V X kc ks z S I J R (pc) lv st := by
  obtain ⟨p, l, e, Rm, s, m, args, below, meth, c, nL, T, B, Q⟩ := X
  intro H locs ls hR hS hl
  exact lv_ldcw C.1 C.2.1 C.2.2.2.1 (C.2.2.2.2.1 _ hc) d (k H locs ls hR hS hl)
theorem v_ldc2 (C : Cx X own cc rm T0 B0 nL0) {ix : Nat} {v : Int64} (d : decode cc pc = .ok (.ldc2_w ix, 3)) (hc : Cond.constantLong own ix v ∈ wG) (k : V X kc ks z S I J R (pc + 3) lv (.long v :: st)) : V X kc ks z S I J R (pc) lv st := by
  obtain ⟨p, l, e, Rm, s, m, args, below, meth, c, nL, T, B, Q⟩ := X
  intro H locs ls hR hS hl
  exact lv_ldc2 C.1 C.2.1 C.2.2.2.1 (C.2.2.2.2.1 _ hc) d (k H locs ls hR hS hl)
theorem v_iload_n (C : Cx X own cc rm T0 B0 nL0) {q : Fin 4} {x : Int32} (d : decode cc pc = .ok (.iload_n q, 1)) (h : lv[(q : Nat)]? = some (some (.int x))) (k : V X kc ks z S I J R (pc + 1) lv (.int x :: st)) : V X kc ks z S I J R (pc) lv st := by
  obtain ⟨p, l, e, Rm, s, m, args, below, meth, c, nL, T, B, Q⟩ := X
  intro H locs ls hR hS hl
  exact lv_iload_n C.1 C.2.1 d rfl (hl.2.2 _ _ h) (k H locs ls hR hS hl)
theorem v_iload (C : Cx X own cc rm T0 B0 nL0) {q : Nat} {x : Int32} (d : decode cc pc = .ok (.iload q, 2)) (h : lv[q]? = some (some (.int x))) (k : V X kc ks z S I J R (pc + 2) lv (.int x :: st)) : V X kc ks z S I J R (pc) lv st := by
  obtain ⟨p, l, e, Rm, s, m, args, below, meth, c, nL, T, B, Q⟩ := X
  intro H locs ls hR hS hl
  exact lv_iload C.1 C.2.1 d (hl.2.2 _ _ h) (k H locs ls hR hS hl)
theorem v_lload_n (C : Cx X own cc rm T0 B0 nL0) {q : Fin 4} {x : Int64} (d : decode cc pc = .ok (.lload_n q, 1)) (h : lv[(q : Nat)]? = some (some (.long x))) (k : V X kc ks z S I J R (pc + 1) lv (.long x :: st)) : V X kc ks z S I J R (pc) lv st := by
  obtain ⟨p, l, e, Rm, s, m, args, below, meth, c, nL, T, B, Q⟩ := X
  intro H locs ls hR hS hl
  exact lv_lload_n C.1 C.2.1 d rfl (hl.2.2 _ _ h) (k H locs ls hR hS hl)
theorem v_lload (C : Cx X own cc rm T0 B0 nL0) {q : Nat} {x : Int64} (d : decode cc pc = .ok (.lload q, 2)) (h : lv[q]? = some (some (.long x))) (k : V X kc ks z S I J R (pc + 2) lv (.long x :: st)) : V X kc ks z S I J R (pc) lv st := by
  obtain ⟨p, l, e, Rm, s, m, args, below, meth, c, nL, T, B, Q⟩ := X
  intro H locs ls hR hS hl
  exact lv_lload C.1 C.2.1 d (hl.2.2 _ _ h) (k H locs ls hR hS hl)
theorem v_aload_n (C : Cx X own cc rm T0 B0 nL0) {q : Fin 4} {x : Nat} (d : decode cc pc = .ok (.aload_n q, 1)) (h : lv[(q : Nat)]? = some (some (.ref x))) (k : V X kc ks z S I J R (pc + 1) lv (.ref x :: st)) : V X kc ks z S I J R (pc) lv st := by
  obtain ⟨p, l, e, Rm, s, m, args, below, meth, c, nL, T, B, Q⟩ := X
  intro H locs ls hR hS hl
  exact lv_aload_n C.1 C.2.1 d rfl (hl.2.2 _ _ h) (k H locs ls hR hS hl)
theorem v_aload (C : Cx X own cc rm T0 B0 nL0) {q : Nat} {x : Nat} (d : decode cc pc = .ok (.aload q, 2)) (h : lv[q]? = some (some (.ref x))) (k : V X kc ks z S I J R (pc + 2) lv (.ref x :: st)) : V X kc ks z S I J R (pc) lv st := by
  obtain ⟨p, l, e, Rm, s, m, args, below, meth, c, nL, T, B, Q⟩ := X
  intro H locs ls hR hS hl
  exact lv_aload C.1 C.2.1 d (hl.2.2 _ _ h) (k H locs ls hR hS hl)
theorem v_aload_nN (C : Cx X own cc rm T0 B0 nL0) {q : Fin 4} (d : decode cc pc = .ok (.aload_n q, 1)) (h : lv[(q : Nat)]? = some (some .null)) (k : V X kc ks z S I J R (pc + 1) lv (.null :: st)) : V X kc ks z S I J R (pc) lv st := by
  obtain ⟨p, l, e, Rm, s, m, args, below, meth, c, nL, T, B, Q⟩ := X
  intro H locs ls hR hS hl
  exact lv_aload_nN C.1 C.2.1 d rfl (hl.2.2 _ _ h) (k H locs ls hR hS hl)
theorem v_aloadN (C : Cx X own cc rm T0 B0 nL0) {q : Nat} (d : decode cc pc = .ok (.aload q, 2)) (h : lv[q]? = some (some .null)) (k : V X kc ks z S I J R (pc + 2) lv (.null :: st)) : V X kc ks z S I J R (pc) lv st := by
  obtain ⟨p, l, e, Rm, s, m, args, below, meth, c, nL, T, B, Q⟩ := X
  intro H locs ls hR hS hl
  exact lv_aloadN C.1 C.2.1 d (hl.2.2 _ _ h) (k H locs ls hR hS hl)
theorem v_istore_n (C : Cx X own cc rm T0 B0 nL0) {q : Fin 4} {x : Int32} (d : decode cc pc = .ok (.istore_n q, 1)) (hn : (q : Nat) < nL0) (k : V X kc ks z S I J R (pc + 1) (sto1 lv (q : Nat) (.int x)) st) : V X kc ks z S I J R pc lv (.int x :: st) := by
  obtain ⟨p, l, e, Rm, s, m, args, below, meth, c, nL, T, B, Q⟩ := X
  intro H locs ls hR hS hl
  obtain ⟨-, -, -, -, -, -, -, -, -, -, -, hn0⟩ := id C
  exact lv_istore_n C.1 C.2.1 d rfl hl.has (by rw [hn0]; exact hn) rfl (fun ls' hl' => k H locs ls' hR hS (lvh_s1 hl'))
theorem v_istore (C : Cx X own cc rm T0 B0 nL0) {q : Nat} {x : Int32} (d : decode cc pc = .ok (.istore q, 2)) (hn : q < nL0) (k : V X kc ks z S I J R (pc + 2) (sto1 lv q (.int x)) st) : V X kc ks z S I J R pc lv (.int x :: st) := by
  obtain ⟨p, l, e, Rm, s, m, args, below, meth, c, nL, T, B, Q⟩ := X
  intro H locs ls hR hS hl
  obtain ⟨-, -, -, -, -, -, -, -, -, -, -, hn0⟩ := id C
  exact lv_istore C.1 C.2.1 d hl.has (by rw [hn0]; exact hn) rfl (fun ls' hl' => k H locs ls' hR hS (lvh_s1 hl'))
theorem v_lstore_n (C : Cx X own cc rm T0 B0 nL0) {q : Fin 4} {x : Int64} (d : decode cc pc = .ok (.lstore_n q, 1)) (hn : (q : Nat) + 1 < nL0) (k : V X kc ks z S I J R (pc + 1) (sto2 lv (q : Nat) (.long x)) st) : V X kc ks z S I J R pc lv (.long x :: st) := by
  obtain ⟨p, l, e, Rm, s, m, args, below, meth, c, nL, T, B, Q⟩ := X
  intro H locs ls hR hS hl
  obtain ⟨-, -, -, -, -, -, -, -, -, -, -, hn0⟩ := id C
  exact lv_lstore_n C.1 C.2.1 d rfl hl.has (by rw [hn0]; exact hn) rfl (fun ls' hl' => k H locs ls' hR hS (lvh_s2 hl'))
theorem v_lstore (C : Cx X own cc rm T0 B0 nL0) {q : Nat} {x : Int64} (d : decode cc pc = .ok (.lstore q, 2)) (hn : q + 1 < nL0) (k : V X kc ks z S I J R (pc + 2) (sto2 lv q (.long x)) st) : V X kc ks z S I J R pc lv (.long x :: st) := by
  obtain ⟨p, l, e, Rm, s, m, args, below, meth, c, nL, T, B, Q⟩ := X
  intro H locs ls hR hS hl
  obtain ⟨-, -, -, -, -, -, -, -, -, -, -, hn0⟩ := id C
  exact lv_lstore C.1 C.2.1 d hl.has (by rw [hn0]; exact hn) rfl (fun ls' hl' => k H locs ls' hR hS (lvh_s2 hl'))
theorem v_astore_n (C : Cx X own cc rm T0 B0 nL0) {q : Fin 4} {x : Nat} (d : decode cc pc = .ok (.astore_n q, 1)) (hn : (q : Nat) < nL0) (k : V X kc ks z S I J R (pc + 1) (sto1 lv (q : Nat) (.ref x)) st) : V X kc ks z S I J R pc lv (.ref x :: st) := by
  obtain ⟨p, l, e, Rm, s, m, args, below, meth, c, nL, T, B, Q⟩ := X
  intro H locs ls hR hS hl
  obtain ⟨-, -, -, -, -, -, -, -, -, -, -, hn0⟩ := id C
  exact lv_astore_n C.1 C.2.1 d rfl hl.has (by rw [hn0]; exact hn) rfl (fun ls' hl' => k H locs ls' hR hS (lvh_s1 hl'))
theorem v_astore (C : Cx X own cc rm T0 B0 nL0) {q : Nat} {x : Nat} (d : decode cc pc = .ok (.astore q, 2)) (hn : q < nL0) (k : V X kc ks z S I J R (pc + 2) (sto1 lv q (.ref x)) st) : V X kc ks z S I J R pc lv (.ref x :: st) := by
  obtain ⟨p, l, e, Rm, s, m, args, below, meth, c, nL, T, B, Q⟩ := X
  intro H locs ls hR hS hl
  obtain ⟨-, -, -, -, -, -, -, -, -, -, -, hn0⟩ := id C
  exact lv_astore C.1 C.2.1 d hl.has (by rw [hn0]; exact hn) rfl (fun ls' hl' => k H locs ls' hR hS (lvh_s1 hl'))
theorem v_astore_nN (C : Cx X own cc rm T0 B0 nL0) {q : Fin 4} (d : decode cc pc = .ok (.astore_n q, 1)) (hn : (q : Nat) < nL0) (k : V X kc ks z S I J R (pc + 1) (sto1 lv (q : Nat) .null) st) : V X kc ks z S I J R pc lv (.null :: st) := by
  obtain ⟨p, l, e, Rm, s, m, args, below, meth, c, nL, T, B, Q⟩ := X
  intro H locs ls hR hS hl
  obtain ⟨-, -, -, -, -, -, -, -, -, -, -, hn0⟩ := id C
  exact lv_astore_nN C.1 C.2.1 d rfl hl.has (by rw [hn0]; exact hn) rfl (fun ls' hl' => k H locs ls' hR hS (lvh_s1 hl'))
theorem v_astoreN (C : Cx X own cc rm T0 B0 nL0) {q : Nat} (d : decode cc pc = .ok (.astore q, 2)) (hn : q < nL0) (k : V X kc ks z S I J R (pc + 2) (sto1 lv q .null) st) : V X kc ks z S I J R pc lv (.null :: st) := by
  obtain ⟨p, l, e, Rm, s, m, args, below, meth, c, nL, T, B, Q⟩ := X
  intro H locs ls hR hS hl
  obtain ⟨-, -, -, -, -, -, -, -, -, -, -, hn0⟩ := id C
  exact lv_astoreN C.1 C.2.1 d hl.has (by rw [hn0]; exact hn) rfl (fun ls' hl' => k H locs ls' hR hS (lvh_s1 hl'))
theorem v_iinc (C : Cx X own cc rm T0 B0 nL0) {q : Nat} {n : Int} {x v : Int32} (d : decode cc pc = .ok (.iinc q n, 3)) (h : lv[q]? = some (some (.int x))) (hv : x + Int32.ofInt n = v) (hn : q < nL0) (k : V X kc ks z S I J R (pc + 3) (sto1 lv q (.int v)) st) : V X kc ks z S I J R pc lv st := by
  obtain ⟨p, l, e, Rm, s, m, args, below, meth, c, nL, T, B, Q⟩ := X
  intro H locs ls hR hS hl
  obtain ⟨-, -, -, -, -, -, -, -, -, -, -, hn0⟩ := id C
  obtain ⟨i, hi⟩ := List.getElem?_of_mem (asc_mem (q := (q, .int x)).mpr h)
  exact lv_iinc C.1 C.2.1 d hl.has hi hv (by rw [hn0]; exact hn) rfl (fun ls' hl' => k H locs ls' hR hS (lvh_s1 hl'))
theorem v_iadd (C : Cx X own cc rm T0 B0 nL0) {x y : Int32} (d : decode cc pc = .ok (.iadd, 1)) (k : V X kc ks z S I J R (pc + 1) lv (.int (x + y) :: st)) : V X kc ks z S I J R (pc) lv (.int y :: .int x :: st) := by
  obtain ⟨p, l, e, Rm, s, m, args, below, meth, c, nL, T, B, Q⟩ := X
  intro H locs ls hR hS hl
  exact lv_iadd C.1 C.2.1 d (k H locs ls hR hS hl)
theorem v_isub (C : Cx X own cc rm T0 B0 nL0) {x y : Int32} (d : decode cc pc = .ok (.isub, 1)) (k : V X kc ks z S I J R (pc + 1) lv (.int (x - y) :: st)) : V X kc ks z S I J R (pc) lv (.int y :: .int x :: st) := by
  obtain ⟨p, l, e, Rm, s, m, args, below, meth, c, nL, T, B, Q⟩ := X
  intro H locs ls hR hS hl
  exact lv_isub C.1 C.2.1 d (k H locs ls hR hS hl)
theorem v_imul (C : Cx X own cc rm T0 B0 nL0) {x y : Int32} (d : decode cc pc = .ok (.imul, 1)) (k : V X kc ks z S I J R (pc + 1) lv (.int (x * y) :: st)) : V X kc ks z S I J R (pc) lv (.int y :: .int x :: st) := by
  obtain ⟨p, l, e, Rm, s, m, args, below, meth, c, nL, T, B, Q⟩ := X
  intro H locs ls hR hS hl
  exact lv_imul C.1 C.2.1 d (k H locs ls hR hS hl)
theorem v_iand (C : Cx X own cc rm T0 B0 nL0) {x y : Int32} (d : decode cc pc = .ok (.iand, 1)) (k : V X kc ks z S I J R (pc + 1) lv (.int (x &&& y) :: st)) : V X kc ks z S I J R (pc) lv (.int y :: .int x :: st) := by
  obtain ⟨p, l, e, Rm, s, m, args, below, meth, c, nL, T, B, Q⟩ := X
  intro H locs ls hR hS hl
  exact lv_iand C.1 C.2.1 d (k H locs ls hR hS hl)
theorem v_ior (C : Cx X own cc rm T0 B0 nL0) {x y : Int32} (d : decode cc pc = .ok (.ior, 1)) (k : V X kc ks z S I J R (pc + 1) lv (.int (x ||| y) :: st)) : V X kc ks z S I J R (pc) lv (.int y :: .int x :: st) := by
  obtain ⟨p, l, e, Rm, s, m, args, below, meth, c, nL, T, B, Q⟩ := X
  intro H locs ls hR hS hl
  exact lv_ior C.1 C.2.1 d (k H locs ls hR hS hl)
theorem v_ixor (C : Cx X own cc rm T0 B0 nL0) {x y : Int32} (d : decode cc pc = .ok (.ixor, 1)) (k : V X kc ks z S I J R (pc + 1) lv (.int (x ^^^ y) :: st)) : V X kc ks z S I J R (pc) lv (.int y :: .int x :: st) := by
  obtain ⟨p, l, e, Rm, s, m, args, below, meth, c, nL, T, B, Q⟩ := X
  intro H locs ls hR hS hl
  exact lv_ixor C.1 C.2.1 d (k H locs ls hR hS hl)
theorem v_ishl (C : Cx X own cc rm T0 B0 nL0) {x y : Int32} (d : decode cc pc = .ok (.ishl, 1)) (k : V X kc ks z S I J R (pc + 1) lv (.int (x <<< (y &&& 31)) :: st)) : V X kc ks z S I J R (pc) lv (.int y :: .int x :: st) := by
  obtain ⟨p, l, e, Rm, s, m, args, below, meth, c, nL, T, B, Q⟩ := X
  intro H locs ls hR hS hl
  exact lv_ishl C.1 C.2.1 d (k H locs ls hR hS hl)
theorem v_ishr (C : Cx X own cc rm T0 B0 nL0) {x y : Int32} (d : decode cc pc = .ok (.ishr, 1)) (k : V X kc ks z S I J R (pc + 1) lv (.int (x >>> (y &&& 31)) :: st)) : V X kc ks z S I J R (pc) lv (.int y :: .int x :: st) := by
  obtain ⟨p, l, e, Rm, s, m, args, below, meth, c, nL, T, B, Q⟩ := X
  intro H locs ls hR hS hl
  exact lv_ishr C.1 C.2.1 d (k H locs ls hR hS hl)
theorem v_idiv (C : Cx X own cc rm T0 B0 nL0) {x y : Int32} (d : decode cc pc = .ok (.idiv, 1)) (hne : ¬ y = 0) (k : V X kc ks z S I J R (pc + 1) lv (.int (x / y) :: st)) : V X kc ks z S I J R (pc) lv (.int y :: .int x :: st) := by
  obtain ⟨p, l, e, Rm, s, m, args, below, meth, c, nL, T, B, Q⟩ := X
  intro H locs ls hR hS hl
  exact lv_idiv C.1 C.2.1 d hne (k H locs ls hR hS hl)
theorem v_irem (C : Cx X own cc rm T0 B0 nL0) {x y : Int32} (d : decode cc pc = .ok (.irem, 1)) (hne : ¬ y = 0) (k : V X kc ks z S I J R (pc + 1) lv (.int (x - x / y * y) :: st)) : V X kc ks z S I J R (pc) lv (.int y :: .int x :: st) := by
  obtain ⟨p, l, e, Rm, s, m, args, below, meth, c, nL, T, B, Q⟩ := X
  intro H locs ls hR hS hl
  exact lv_irem C.1 C.2.1 d hne (k H locs ls hR hS hl)
theorem v_iushr (C : Cx X own cc rm T0 B0 nL0) {x y : Int32} (d : decode cc pc = .ok (.iushr, 1)) (k : V X kc ks z S I J R (pc + 1) lv (.int ((x.toUInt32 >>> (y.toUInt32 &&& Int32.toUInt32 31)).toInt32) :: st)) : V X kc ks z S I J R (pc) lv (.int y :: .int x :: st) := by
  obtain ⟨p, l, e, Rm, s, m, args, below, meth, c, nL, T, B, Q⟩ := X
  intro H locs ls hR hS hl
  exact lv_iushr C.1 C.2.1 d rfl (k H locs ls hR hS hl)
theorem v_ineg (C : Cx X own cc rm T0 B0 nL0) {x : Int32} (d : decode cc pc = .ok (.ineg, 1)) (k : V X kc ks z S I J R (pc + 1) lv (.int (-x) :: st)) : V X kc ks z S I J R (pc) lv (.int x :: st) := by
  obtain ⟨p, l, e, Rm, s, m, args, below, meth, c, nL, T, B, Q⟩ := X
  intro H locs ls hR hS hl
  exact lv_ineg C.1 C.2.1 d (k H locs ls hR hS hl)
theorem v_ladd (C : Cx X own cc rm T0 B0 nL0) {x y : Int64} (d : decode cc pc = .ok (.ladd, 1)) (k : V X kc ks z S I J R (pc + 1) lv (.long (x + y) :: st)) : V X kc ks z S I J R (pc) lv (.long y :: .long x :: st) := by
  obtain ⟨p, l, e, Rm, s, m, args, below, meth, c, nL, T, B, Q⟩ := X
  intro H locs ls hR hS hl
  exact lv_ladd C.1 C.2.1 d (k H locs ls hR hS hl)
theorem v_lsub (C : Cx X own cc rm T0 B0 nL0) {x y : Int64} (d : decode cc pc = .ok (.lsub, 1)) (k : V X kc ks z S I J R (pc + 1) lv (.long (x - y) :: st)) : V X kc ks z S I J R (pc) lv (.long y :: .long x :: st) := by
  obtain ⟨p, l, e, Rm, s, m, args, below, meth, c, nL, T, B, Q⟩ := X
  intro H locs ls hR hS hl
  exact lv_lsub C.1 C.2.1 d (k H locs ls hR hS hl)
theorem v_lmul (C : Cx X own cc rm T0 B0 nL0) {x y : Int64} (d : decode cc pc = .ok (.lmul, 1)) (k : V X kc ks z S I J R (pc + 1) lv (.long (x * y) :: st)) : V X kc ks z S I J R (pc) lv (.long y :: .long x :: st) := by
  obtain ⟨p, l, e, Rm, s, m, args, below, meth, c, nL, T, B, Q⟩ := X
  intro H locs ls hR hS hl
  exact lv_lmul C.1 C.2.1 d (k H locs ls hR hS hl)
theorem v_land (C : Cx X own cc rm T0 B0 nL0) {x y : Int64} (d : decode cc pc = .ok (.land, 1)) (k : V X kc ks z S I J R (pc + 1) lv (.long (x &&& y) :: st)) : V X kc ks z S I J R (pc) lv (.long y :: .long x :: st) := by
  obtain ⟨p, l, e, Rm, s, m, args, below, meth, c, nL, T, B, Q⟩ := X
  intro H locs ls hR hS hl
  exact lv_land C.1 C.2.1 d (k H locs ls hR hS hl)
theorem v_lor (C : Cx X own cc rm T0 B0 nL0) {x y : Int64} (d : decode cc pc = .ok (.lor, 1)) (k : V X kc ks z S I J R (pc + 1) lv (.long (x ||| y) :: st)) : V X kc ks z S I J R (pc) lv (.long y :: .long x :: st) := by
  obtain ⟨p, l, e, Rm, s, m, args, below, meth, c, nL, T, B, Q⟩ := X
  intro H locs ls hR hS hl
  exact lv_lor C.1 C.2.1 d (k H locs ls hR hS hl)
theorem v_lxor (C : Cx X own cc rm T0 B0 nL0) {x y : Int64} (d : decode cc pc = .ok (.lxor, 1)) (k : V X kc ks z S I J R (pc + 1) lv (.long (x ^^^ y) :: st)) : V X kc ks z S I J R (pc) lv (.long y :: .long x :: st) := by
  obtain ⟨p, l, e, Rm, s, m, args, below, meth, c, nL, T, B, Q⟩ := X
  intro H locs ls hR hS hl
  exact lv_lxor C.1 C.2.1 d (k H locs ls hR hS hl)
theorem v_ldiv (C : Cx X own cc rm T0 B0 nL0) {x y : Int64} (d : decode cc pc = .ok (.ldiv, 1)) (hne : ¬ y = 0) (k : V X kc ks z S I J R (pc + 1) lv (.long (x / y) :: st)) : V X kc ks z S I J R (pc) lv (.long y :: .long x :: st) := by
  obtain ⟨p, l, e, Rm, s, m, args, below, meth, c, nL, T, B, Q⟩ := X
  intro H locs ls hR hS hl
  exact lv_ldiv C.1 C.2.1 d hne (k H locs ls hR hS hl)
theorem v_lrem (C : Cx X own cc rm T0 B0 nL0) {x y : Int64} (d : decode cc pc = .ok (.lrem, 1)) (hne : ¬ y = 0) (k : V X kc ks z S I J R (pc + 1) lv (.long (x - x / y * y) :: st)) : V X kc ks z S I J R (pc) lv (.long y :: .long x :: st) := by
  obtain ⟨p, l, e, Rm, s, m, args, below, meth, c, nL, T, B, Q⟩ := X
  intro H locs ls hR hS hl
  exact lv_lrem C.1 C.2.1 d hne (k H locs ls hR hS hl)
theorem v_lneg (C : Cx X own cc rm T0 B0 nL0) {x : Int64} (d : decode cc pc = .ok (.lneg, 1)) (k : V X kc ks z S I J R (pc + 1) lv (.long (-x) :: st)) : V X kc ks z S I J R (pc) lv (.long x :: st) := by
  obtain ⟨p, l, e, Rm, s, m, args, below, meth, c, nL, T, B, Q⟩ := X
  intro H locs ls hR hS hl
  exact lv_lneg C.1 C.2.1 d (k H locs ls hR hS hl)
theorem v_lshl (C : Cx X own cc rm T0 B0 nL0) {x : Int64} {y : Int32} (d : decode cc pc = .ok (.lshl, 1)) (k : V X kc ks z S I J R (pc + 1) lv (.long (x <<< (y.toInt64 &&& 63)) :: st)) : V X kc ks z S I J R (pc) lv (.int y :: .long x :: st) := by
  obtain ⟨p, l, e, Rm, s, m, args, below, meth, c, nL, T, B, Q⟩ := X
  intro H locs ls hR hS hl
  exact lv_lshl C.1 C.2.1 d rfl (k H locs ls hR hS hl)
theorem v_lshr (C : Cx X own cc rm T0 B0 nL0) {x : Int64} {y : Int32} (d : decode cc pc = .ok (.lshr, 1)) (k : V X kc ks z S I J R (pc + 1) lv (.long (x >>> (y.toInt64 &&& 63)) :: st)) : V X kc ks z S I J R (pc) lv (.int y :: .long x :: st) := by
  obtain ⟨p, l, e, Rm, s, m, args, below, meth, c, nL, T, B, Q⟩ := X
  intro H locs ls hR hS hl
  exact lv_lshr C.1 C.2.1 d rfl (k H locs ls hR hS hl)
theorem v_lushr (C : Cx X own cc rm T0 B0 nL0) {x : Int64} {y : Int32} (d : decode cc pc = .ok (.lushr, 1)) (k : V X kc ks z S I J R (pc + 1) lv (.long ((x.toUInt64 >>> (y.toInt64.toUInt64 &&& Int64.toUInt64 63)).toInt64) :: st)) : V X kc ks z S I J R (pc) lv (.int y :: .long x :: st) := by
  obtain ⟨p, l, e, Rm, s, m, args, below, meth, c, nL, T, B, Q⟩ := X
  intro H locs ls hR hS hl
  exact lv_lushr C.1 C.2.1 d rfl (k H locs ls hR hS hl)
theorem v_i2l (C : Cx X own cc rm T0 B0 nL0) {x : Int32} (d : decode cc pc = .ok (.i2l, 1)) (k : V X kc ks z S I J R (pc + 1) lv (.long x.toInt64 :: st)) : V X kc ks z S I J R (pc) lv (.int x :: st) := by
  obtain ⟨p, l, e, Rm, s, m, args, below, meth, c, nL, T, B, Q⟩ := X
  intro H locs ls hR hS hl
  exact lv_i2l C.1 C.2.1 d rfl (k H locs ls hR hS hl)
theorem v_l2i (C : Cx X own cc rm T0 B0 nL0) {x : Int64} (d : decode cc pc = .ok (.l2i, 1)) (k : V X kc ks z S I J R (pc + 1) lv (.int x.toInt32 :: st)) : V X kc ks z S I J R (pc) lv (.long x :: st) := by
  obtain ⟨p, l, e, Rm, s, m, args, below, meth, c, nL, T, B, Q⟩ := X
  intro H locs ls hR hS hl
  exact lv_l2i C.1 C.2.1 d rfl (k H locs ls hR hS hl)
theorem v_lcmp (C : Cx X own cc rm T0 B0 nL0) {x y : Int64} (d : decode cc pc = .ok (.lcmp, 1)) (k : V X kc ks z S I J R (pc + 1) lv (.int (lg_cmp x y) :: st)) : V X kc ks z S I J R (pc) lv (.long y :: .long x :: st) := by
  obtain ⟨p, l, e, Rm, s, m, args, below, meth, c, nL, T, B, Q⟩ := X
  intro H locs ls hR hS hl
  exact W.lcmp C.1 C.2.1 d (k H locs ls hR hS hl)
theorem v_dup (C : Cx X own cc rm T0 B0 nL0) {v : Value} (d : decode cc pc = .ok (.dup, 1)) (hv : v.category = 1) (k : V X kc ks z S I J R (pc + 1) lv (v :: v :: st)) : V X kc ks z S I J R (pc) lv (v :: st) := by
  obtain ⟨p, l, e, Rm, s, m, args, below, meth, c, nL, T, B, Q⟩ := X
  intro H locs ls hR hS hl
  exact lv_dup C.1 C.2.1 d hv (k H locs ls hR hS hl)
theorem v_dup2 (C : Cx X own cc rm T0 B0 nL0) {v u : Value} (d : decode cc pc = .ok (.dup2, 1)) (hv : v.category = 1) (hu : u.category = 1) (k : V X kc ks z S I J R (pc + 1) lv (v :: u :: v :: u :: st)) : V X kc ks z S I J R (pc) lv (v :: u :: st) := by
  obtain ⟨p, l, e, Rm, s, m, args, below, meth, c, nL, T, B, Q⟩ := X
  intro H locs ls hR hS hl
  exact lv_dup2_11 C.1 C.2.1 d hv hu (k H locs ls hR hS hl)
theorem v_if_eq (C : Cx X own cc rm T0 B0 nL0) {x : Int32} {off : Int} (tgt : Nat) (d : decode cc pc = .ok (.ifCond .eq off, 3)) (ht : (pc : Int) + off = (tgt : Int)) (kt : x = 0 → V X kc ks z S I J R tgt lv st) (kf : ¬ x = 0 → V X kc ks z S I J R (pc + 3) lv st) : V X kc ks z S I J R pc lv (.int x :: st) := by
  obtain ⟨p, l, e, Rm, s, m, args, below, meth, c, nL, T, B, Q⟩ := X
  intro H locs ls hR hS hl
  exact lv_if_eq C.1 C.2.1 d ht (fun h => kt h H locs ls hR hS hl) (fun h => kf h H locs ls hR hS hl)
theorem v_icmp_eq (C : Cx X own cc rm T0 B0 nL0) {x y : Int32} {off : Int} (tgt : Nat) (d : decode cc pc = .ok (.if_icmp .eq off, 3)) (ht : (pc : Int) + off = (tgt : Int)) (kt : x = y → V X kc ks z S I J R tgt lv st) (kf : ¬ x = y → V X kc ks z S I J R (pc + 3) lv st) : V X kc ks z S I J R pc lv (.int y :: .int x :: st) := by
  obtain ⟨p, l, e, Rm, s, m, args, below, meth, c, nL, T, B, Q⟩ := X
  intro H locs ls hR hS hl
  exact lv_icmp_eq C.1 C.2.1 d ht (fun h => kt h H locs ls hR hS hl) (fun h => kf h H locs ls hR hS hl)
theorem v_if_ne (C : Cx X own cc rm T0 B0 nL0) {x : Int32} {off : Int} (tgt : Nat) (d : decode cc pc = .ok (.ifCond .ne off, 3)) (ht : (pc : Int) + off = (tgt : Int)) (kt : ¬ x = 0 → V X kc ks z S I J R tgt lv st) (kf : x = 0 → V X kc ks z S I J R (pc + 3) lv st) : V X kc ks z S I J R pc lv (.int x :: st) := by
  obtain ⟨p, l, e, Rm, s, m, args, below, meth, c, nL, T, B, Q⟩ := X
  intro H locs ls hR hS hl
  exact lv_if_ne C.1 C.2.1 d ht (fun h => kt h H locs ls hR hS hl) (fun h => kf h H locs ls hR hS hl)
theorem v_icmp_ne (C : Cx X own cc rm T0 B0 nL0) {x y : Int32} {off : Int} (tgt : Nat) (d : decode cc pc = .ok (.if_icmp .ne off, 3)) (ht : (pc : Int) + off = (tgt : Int)) (kt : ¬ x = y → V X kc ks z S I J R tgt lv st) (kf : x = y → V X kc ks z S I J R (pc + 3) lv st) : V X kc ks z S I J R pc lv (.int y :: .int x :: st) := by
  obtain ⟨p, l, e, Rm, s, m, args, below, meth, c, nL, T, B, Q⟩ := X
  intro H locs ls hR hS hl
  exact lv_icmp_ne C.1 C.2.1 d ht (fun h => kt h H locs ls hR hS hl) (fun h => kf h H locs ls hR hS hl)
theorem v_if_lt (C : Cx X own cc rm T0 B0 nL0) {x : Int32} {off : Int} (tgt : Nat) (d : decode cc pc = .ok (.ifCond .lt off, 3)) (ht : (pc : Int) + off = (tgt : Int)) (kt : x < 0 → V X kc ks z S I J R tgt lv st) (kf : ¬ x < 0 → V X kc ks z S I J R (pc + 3) lv st) : V X kc ks z S I J R pc lv (.int x :: st) := by
  obtain ⟨p, l, e, Rm, s, m, args, below, meth, c, nL, T, B, Q⟩ := X
  intro H locs ls hR hS hl
  exact lv_if_lt C.1 C.2.1 d ht (fun h => kt h H locs ls hR hS hl) (fun h => kf h H locs ls hR hS hl)
theorem v_icmp_lt (C : Cx X own cc rm T0 B0 nL0) {x y : Int32} {off : Int} (tgt : Nat) (d : decode cc pc = .ok (.if_icmp .lt off, 3)) (ht : (pc : Int) + off = (tgt : Int)) (kt : x < y → V X kc ks z S I J R tgt lv st) (kf : ¬ x < y → V X kc ks z S I J R (pc + 3) lv st) : V X kc ks z S I J R pc lv (.int y :: .int x :: st) := by
  obtain ⟨p, l, e, Rm, s, m, args, below, meth, c, nL, T, B, Q⟩ := X
  intro H locs ls hR hS hl
  exact lv_icmp_lt C.1 C.2.1 d ht (fun h => kt h H locs ls hR hS hl) (fun h => kf h H locs ls hR hS hl)
theorem v_if_ge (C : Cx X own cc rm T0 B0 nL0) {x : Int32} {off : Int} (tgt : Nat) (d : decode cc pc = .ok (.ifCond .ge off, 3)) (ht : (pc : Int) + off = (tgt : Int)) (kt : 0 ≤ x → V X kc ks z S I J R tgt lv st) (kf : ¬ 0 ≤ x → V X kc ks z S I J R (pc + 3) lv st) : V X kc ks z S I J R pc lv (.int x :: st) := by
  obtain ⟨p, l, e, Rm, s, m, args, below, meth, c, nL, T, B, Q⟩ := X
  intro H locs ls hR hS hl
  exact lv_if_ge C.1 C.2.1 d ht (fun h => kt h H locs ls hR hS hl) (fun h => kf h H locs ls hR hS hl)
theorem v_icmp_ge (C : Cx X own cc rm T0 B0 nL0) {x y : Int32} {off : Int} (tgt : Nat) (d : decode cc pc = .ok (.if_icmp .ge off, 3)) (ht : (pc : Int) + off = (tgt : Int)) (kt : y ≤ x → V X kc ks z S I J R tgt lv st) (kf : ¬ y ≤ x → V X kc ks z S I J R (pc + 3) lv st) : V X kc ks z S I J R pc lv (.int y :: .int x :: st) := by
  obtain ⟨p, l, e, Rm, s, m, args, below, meth, c, nL, T, B, Q⟩ := X
  intro H locs ls hR hS hl
  exact lv_icmp_ge C.1 C.2.1 d ht (fun h => kt h H locs ls hR hS hl) (fun h => kf h H locs ls hR hS hl)
theorem v_if_gt (C : Cx X own cc rm T0 B0 nL0) {x : Int32} {off : Int} (tgt : Nat) (d : decode cc pc = .ok (.ifCond .gt off, 3)) (ht : (pc : Int) + off = (tgt : Int)) (kt : 0 < x → V X kc ks z S I J R tgt lv st) (kf : ¬ 0 < x → V X kc ks z S I J R (pc + 3) lv st) : V X kc ks z S I J R pc lv (.int x :: st) := by
  obtain ⟨p, l, e, Rm, s, m, args, below, meth, c, nL, T, B, Q⟩ := X
  intro H locs ls hR hS hl
  exact lv_if_gt C.1 C.2.1 d ht (fun h => kt h H locs ls hR hS hl) (fun h => kf h H locs ls hR hS hl)
theorem v_icmp_gt (C : Cx X own cc rm T0 B0 nL0) {x y : Int32} {off : Int} (tgt : Nat) (d : decode cc pc = .ok (.if_icmp .gt off, 3)) (ht : (pc : Int) + off = (tgt : Int)) (kt : y < x → V X kc ks z S I J R tgt lv st) (kf : ¬ y < x → V X kc ks z S I J R (pc + 3) lv st) : V X kc ks z S I J R pc lv (.int y :: .int x :: st) := by
  obtain ⟨p, l, e, Rm, s, m, args, below, meth, c, nL, T, B, Q⟩ := X
  intro H locs ls hR hS hl
  exact lv_icmp_gt C.1 C.2.1 d ht (fun h => kt h H locs ls hR hS hl) (fun h => kf h H locs ls hR hS hl)
theorem v_if_le (C : Cx X own cc rm T0 B0 nL0) {x : Int32} {off : Int} (tgt : Nat) (d : decode cc pc = .ok (.ifCond .le off, 3)) (ht : (pc : Int) + off = (tgt : Int)) (kt : x ≤ 0 → V X kc ks z S I J R tgt lv st) (kf : ¬ x ≤ 0 → V X kc ks z S I J R (pc + 3) lv st) : V X kc ks z S I J R pc lv (.int x :: st) := by
  obtain ⟨p, l, e, Rm, s, m, args, below, meth, c, nL, T, B, Q⟩ := X
  intro H locs ls hR hS hl
  exact lv_if_le C.1 C.2.1 d ht (fun h => kt h H locs ls hR hS hl) (fun h => kf h H locs ls hR hS hl)
theorem v_icmp_le (C : Cx X own cc rm T0 B0 nL0) {x y : Int32} {off : Int} (tgt : Nat) (d : decode cc pc = .ok (.if_icmp .le off, 3)) (ht : (pc : Int) + off = (tgt : Int)) (kt : x ≤ y → V X kc ks z S I J R tgt lv st) (kf : ¬ x ≤ y → V X kc ks z S I J R (pc + 3) lv st) : V X kc ks z S I J R pc lv (.int y :: .int x :: st) := by
  obtain ⟨p, l, e, Rm, s, m, args, below, meth, c, nL, T, B, Q⟩ := X
  intro H locs ls hR hS hl
  exact lv_icmp_le C.1 C.2.1 d ht (fun h => kt h H locs ls hR hS hl) (fun h => kf h H locs ls hR hS hl)
theorem v_goto (C : Cx X own cc rm T0 B0 nL0) {off : Int} (tgt : Nat) (d : decode cc pc = .ok (.goto off, 3)) (ht : (pc : Int) + off = (tgt : Int)) (k : V X kc ks z S I J R tgt lv st) : V X kc ks z S I J R pc lv st := by
  obtain ⟨p, l, e, Rm, s, m, args, below, meth, c, nL, T, B, Q⟩ := X
  intro H locs ls hR hS hl
  exact lv_goto C.1 C.2.1 d ht (k H locs ls hR hS hl)
theorem v_ifnonnull (C : Cx X own cc rm T0 B0 nL0) {x : Nat} {off : Int} (tgt : Nat) (d : decode cc pc = .ok (.ifnonnull off, 3)) (ht : (pc : Int) + off = (tgt : Int)) (k : V X kc ks z S I J R tgt lv st) : V X kc ks z S I J R pc lv (.ref x :: st) := by
  obtain ⟨p, l, e, Rm, s, m, args, below, meth, c, nL, T, B, Q⟩ := X
  intro H locs ls hR hS hl
  exact lv_ifnonnull C.1 C.2.1 d ht (k H locs ls hR hS hl)
theorem v_ifnonnullN (C : Cx X own cc rm T0 B0 nL0) {off : Int} (d : decode cc pc = .ok (.ifnonnull off, 3)) (k : V X kc ks z S I J R (pc + 3) lv st) : V X kc ks z S I J R pc lv (.null :: st) := by
  obtain ⟨p, l, e, Rm, s, m, args, below, meth, c, nL, T, B, Q⟩ := X
  intro H locs ls hR hS hl
  exact lv_ifnonnullN C.1 C.2.1 d (k H locs ls hR hS hl)
theorem v_ifnull (C : Cx X own cc rm T0 B0 nL0) {x : Nat} {off : Int} (d : decode cc pc = .ok (.ifnull off, 3)) (k : V X kc ks z S I J R (pc + 3) lv st) : V X kc ks z S I J R pc lv (.ref x :: st) := by
  obtain ⟨p, l, e, Rm, s, m, args, below, meth, c, nL, T, B, Q⟩ := X
  intro H locs ls hR hS hl
  exact lv_ifnull C.1 C.2.1 d (k H locs ls hR hS hl)
theorem v_ifnullN (C : Cx X own cc rm T0 B0 nL0) {off : Int} (tgt : Nat) (d : decode cc pc = .ok (.ifnull off, 3)) (ht : (pc : Int) + off = (tgt : Int)) (k : V X kc ks z S I J R tgt lv st) : V X kc ks z S I J R pc lv (.null :: st) := by
  obtain ⟨p, l, e, Rm, s, m, args, below, meth, c, nL, T, B, Q⟩ := X
  intro H locs ls hR hS hl
  exact lv_ifnullN C.1 C.2.1 d ht (k H locs ls hR hS hl)
theorem v_tableOut (C : Cx X own cc rm T0 B0 nL0) {dflt lo hi : Int} {offs : Array Int} {len : Nat} {x : Int32} (tgt : Nat) (d : decode cc pc = .ok (.tableswitch dflt lo hi offs, len)) (h : x.toInt < lo ∨ hi < x.toInt) (ht : (pc : Int) + dflt = (tgt : Int)) (k : V X kc ks z S I J R tgt lv st) : V X kc ks z S I J R pc lv (.int x :: st) := by
  obtain ⟨p, l, e, Rm, s, m, args, below, meth, c, nL, T, B, Q⟩ := X
  intro H locs ls hR hS hl
  exact lv_tableOut C.1 C.2.1 d h ht (k H locs ls hR hS hl)
theorem v_tableIn (C : Cx X own cc rm T0 B0 nL0) {dflt lo hi : Int} {offs : Array Int} {len : Nat} {x : Int32} {off : Int} (tgt : Nat) (d : decode cc pc = .ok (.tableswitch dflt lo hi offs, len)) (h1 : ¬ x.toInt < lo) (h2 : ¬ hi < x.toInt) (ho : offs[(x.toInt - lo).toNat]? = some off) (ht : (pc : Int) + off = (tgt : Int)) (k : V X kc ks z S I J R tgt lv st) : V X kc ks z S I J R pc lv (.int x :: st) := by
  obtain ⟨p, l, e, Rm, s, m, args, below, meth, c, nL, T, B, Q⟩ := X
  intro H locs ls hR hS hl
  exact lv_tableIn C.1 C.2.1 d h1 h2 ho ht (k H locs ls hR hS hl)
theorem v_at (h : ∀ {lv' st'}, lv' = lv → st' = st → V X kc ks z S I J R pc lv' st') : V X kc ks z S I J R pc lv st := h rfl rfl
theorem v_eqi {x x' : Int32} (h : x = x') (k : V X kc ks z S I J R pc lv (.int x' :: st)) : V X kc ks z S I J R pc lv (.int x :: st) := h ▸ k
theorem v_eql {x x' : Int64} (h : x = x') (k : V X kc ks z S I J R pc lv (.long x' :: st)) : V X kc ks z S I J R pc lv (.long x :: st) := h ▸ k
theorem v_mem {z' : Nat} {S' : MS} {I' : MI} {J' : MJ} {R' : MR} (k : V X kc ks z' S' I' J' R' pc lv st) (h0 : z = z') (h1 : S = S') (h2 : I = I') (h3 : J = J') (h4 : R = R') : V X kc ks z S I J R pc lv st := by subst h0 h1 h2 h3 h4; exact k
theorem v_widen {k n : Nat} (h1 : kc ≤ k) (h2 : ks ≤ n) (kk : V X k n z S I J R pc lv st) : V X kc ks z S I J R pc lv st := by
  obtain ⟨p, l, e, Rm, s, m, args, below, meth, c, nL, T, B, Q⟩ := X
  intro H locs ls hR hS hl
  exact W.widen h1 h2 (kk H locs ls hR hS hl)
theorem pb_8 : ∀ n : Nat, n < 128 → (Int8.ofInt (n : Int)).toInt32 = nI n := by decide +kernel
theorem v_iconstN (n : Nat) (C : Cx X own cc rm T0 B0 nL0) (d : decode cc pc = .ok (.iconst (n : Int), 1)) (k : V X kc ks z S I J R (pc + 1) lv (.int (nI n) :: st)) : V X kc ks z S I J R pc lv st := v_iconst C d rfl k
theorem v_bipushN (n : Nat) (hn : n < 128) (C : Cx X own cc rm T0 B0 nL0) (d : decode cc pc = .ok (.bipush (n : Int), 2)) (k : V X kc ks z S I J R (pc + 2) lv (.int (nI n) :: st)) : V X kc ks z S I J R pc lv st := v_bipush C d (pb_8 n hn) k
theorem v_sipushN (n : Nat) (hn : (Int16.ofInt (n : Int)).toInt32 = nI n) (C : Cx X own cc rm T0 B0 nL0) (d : decode cc pc = .ok (.sipush (n : Int), 3)) (k : V X kc ks z S I J R (pc + 3) lv (.int (nI n) :: st)) : V X kc ks z S I J R pc lv st := v_sipush C d hn k
theorem v_lconstN (n : Fin 2) (C : Cx X own cc rm T0 B0 nL0) (d : decode cc pc = .ok (.lconst n, 1)) (k : V X kc ks z S I J R (pc + 1) lv (.long (lN n) :: st)) : V X kc ks z S I J R pc lv st := v_lconst C d rfl k
theorem v_iaddN {a b : Nat} (C : Cx X own cc rm T0 B0 nL0) (d : decode cc pc = .ok (.iadd, 1)) (k : V X kc ks z S I J R (pc + 1) lv (.int (nI (a + b)) :: st)) : V X kc ks z S I J R pc lv (.int (nI b) :: .int (nI a) :: st) := v_iadd C d (by rw [nI_add]; exact k)
theorem v_imulN {a b : Nat} (C : Cx X own cc rm T0 B0 nL0) (d : decode cc pc = .ok (.imul, 1)) (k : V X kc ks z S I J R (pc + 1) lv (.int (nI (a * b)) :: st)) : V X kc ks z S I J R pc lv (.int (nI b) :: .int (nI a) :: st) := v_imul C d (by rw [pk_mul]; exact k)
theorem v_isubN {a b : Nat} (C : Cx X own cc rm T0 B0 nL0) (d : decode cc pc = .ok (.isub, 1)) (h : b ≤ a) (k : V X kc ks z S I J R (pc + 1) lv (.int (nI (a - b)) :: st)) : V X kc ks z S I J R pc lv (.int (nI b) :: .int (nI a) :: st) := v_isub C d (by rw [pk_sub h]; exact k)
theorem v_idivN {a b : Nat} (C : Cx X own cc rm T0 B0 nL0) (d : decode cc pc = .ok (.idiv, 1)) (ha : a < 2147483648) (h0 : 0 < b) (hb : b < 2147483648) (k : V X kc ks z S I J R (pc + 1) lv (.int (nI (a / b)) :: st)) : V X kc ks z S I J R pc lv (.int (nI b) :: .int (nI a) :: st) := v_idiv C d (nI_ne0 h0 hb) (by rw [pk_div ha h0 hb]; exact k)
theorem v_iremN {a b : Nat} (C : Cx X own cc rm T0 B0 nL0) (d : decode cc pc = .ok (.irem, 1)) (ha : a < 2147483648) (h0 : 0 < b) (hb : b < 2147483648) (k : V X kc ks z S I J R (pc + 1) lv (.int (nI (a % b)) :: st)) : V X kc ks z S I J R pc lv (.int (nI b) :: .int (nI a) :: st) := v_irem C d (nI_ne0 h0 hb) (by rw [pk_rem ha h0 hb]; exact k)
theorem v_i2lN {a : Nat} (C : Cx X own cc rm T0 B0 nL0) (d : decode cc pc = .ok (.i2l, 1)) (h : a < 2147483648) (k : V X kc ks z S I J R (pc + 1) lv (.long (lN a) :: st)) : V X kc ks z S I J R pc lv (.int (nI a) :: st) := v_i2l C d (by rw [nI_l h]; exact k)
theorem v_l2iN {a : Nat} (C : Cx X own cc rm T0 B0 nL0) (d : decode cc pc = .ok (.l2i, 1)) (k : V X kc ks z S I J R (pc + 1) lv (.int (nI a) :: st)) : V X kc ks z S I J R pc lv (.long (lN a) :: st) := v_l2i C d (by rw [lN_i]; exact k)
theorem v_laddN {a b : Nat} (C : Cx X own cc rm T0 B0 nL0) (d : decode cc pc = .ok (.ladd, 1)) (k : V X kc ks z S I J R (pc + 1) lv (.long (lN (a + b)) :: st)) : V X kc ks z S I J R pc lv (.long (lN b) :: .long (lN a) :: st) := v_ladd C d (by rw [lN_add]; exact k)
theorem v_lmulN {a b : Nat} (C : Cx X own cc rm T0 B0 nL0) (d : decode cc pc = .ok (.lmul, 1)) (k : V X kc ks z S I J R (pc + 1) lv (.long (lN (a * b)) :: st)) : V X kc ks z S I J R pc lv (.long (lN b) :: .long (lN a) :: st) := v_lmul C d (by rw [lN_mul]; exact k)
theorem v_iincN {q : Nat} {a : Nat} (n : Nat) (C : Cx X own cc rm T0 B0 nL0) (d : decode cc pc = .ok (.iinc q (n : Int), 3)) (h : lv[q]? = some (some (.int (nI a)))) (hn : q < nL0) (k : V X kc ks z S I J R (pc + 3) (sto1 lv q (.int (nI (a + n)))) st) : V X kc ks z S I J R pc lv st := v_iinc C d h (by rw [← nI_add]; rfl) hn k
-- eq : x = y / ¬ x = y
theorem v_icmp_eqN {a b : Nat} (C : Cx X own cc rm T0 B0 nL0) {off : Int} (tgt : Nat) (d : decode cc pc = .ok (.if_icmp .eq off, 3)) (ha : a < 2147483648) (hb : b < 2147483648) (ht : (pc : Int) + off = (tgt : Int)) (kt : a = b → V X kc ks z S I J R tgt lv st) (kf : ¬ a = b → V X kc ks z S I J R (pc + 3) lv st) : V X kc ks z S I J R pc lv (.int (nI b) :: .int (nI a) :: st) := v_icmp_eq C tgt d ht (fun h => kt ((nI_eq ha hb).mp h)) (fun h => kf (fun q => h ((nI_eq ha hb).mpr q)))
-- ne : ¬ x = y / x = y
theorem v_icmp_neN {a b : Nat} (C : Cx X own cc rm T0 B0 nL0) {off : Int} (tgt : Nat) (d : decode cc pc = .ok (.if_icmp .ne off, 3)) (ha : a < 2147483648) (hb : b < 2147483648) (ht : (pc : Int) + off = (tgt : Int)) (kt : ¬ a = b → V X kc ks z S I J R tgt lv st) (kf : a = b → V X kc ks z S I J R (pc + 3) lv st) : V X kc ks z S I J R pc lv (.int (nI b) :: .int (nI a) :: st) := v_icmp_ne C tgt d ht (fun h => kt (fun q => h ((nI_eq ha hb).mpr q))) (fun h => kf ((nI_eq ha hb).mp h))
-- lt : x < y / ¬ x < y
theorem v_icmp_ltN {a b : Nat} (C : Cx X own cc rm T0 B0 nL0) {off : Int} (tgt : Nat) (d : decode cc pc = .ok (.if_icmp .lt off, 3)) (ha : a < 2147483648) (hb : b < 2147483648) (ht : (pc : Int) + off = (tgt : Int)) (kt : a < b → V X kc ks z S I J R tgt lv st) (kf : b ≤ a → V X kc ks z S I J R (pc + 3) lv st) : V X kc ks z S I J R pc lv (.int (nI b) :: .int (nI a) :: st) := v_icmp_lt C tgt d ht (fun h => kt ((nI_ltI ha hb).mp h)) (fun h => kf (Nat.le_of_not_lt fun q => h ((nI_ltI ha hb).mpr q)))
-- ge : y ≤ x / ¬ y ≤ x
theorem v_icmp_geN {a b : Nat} (C : Cx X own cc rm T0 B0 nL0) {off : Int} (tgt : Nat) (d : decode cc pc = .ok (.if_icmp .ge off, 3)) (ha : a < 2147483648) (hb : b < 2147483648) (ht : (pc : Int) + off = (tgt : Int)) (kt : b ≤ a → V X kc ks z S I J R tgt lv st) (kf : a < b → V X kc ks z S I J R (pc + 3) lv st) : V X kc ks z S I J R pc lv (.int (nI b) :: .int (nI a) :: st) := v_icmp_ge C tgt d ht (fun h => kt ((nI_leI hb ha).mp h)) (fun h => kf (Nat.lt_of_not_le fun q => h ((nI_leI hb ha).mpr q)))
-- gt : y < x / ¬ y < x
theorem v_icmp_gtN {a b : Nat} (C : Cx X own cc rm T0 B0 nL0) {off : Int} (tgt : Nat) (d : decode cc pc = .ok (.if_icmp .gt off, 3)) (ha : a < 2147483648) (hb : b < 2147483648) (ht : (pc : Int) + off = (tgt : Int)) (kt : b < a → V X kc ks z S I J R tgt lv st) (kf : a ≤ b → V X kc ks z S I J R (pc + 3) lv st) : V X kc ks z S I J R pc lv (.int (nI b) :: .int (nI a) :: st) := v_icmp_gt C tgt d ht (fun h => kt ((nI_ltI hb ha).mp h)) (fun h => kf (Nat.le_of_not_lt fun q => h ((nI_ltI hb ha).mpr q)))
-- le : x ≤ y / ¬ x ≤ y
theorem v_icmp_leN {a b : Nat} (C : Cx X own cc rm T0 B0 nL0) {off : Int} (tgt : Nat) (d : decode cc pc = .ok (.if_icmp .le off, 3)) (ha : a < 2147483648) (hb : b < 2147483648) (ht : (pc : Int) + off = (tgt : Int)) (kt : a ≤ b → V X kc ks z S I J R tgt lv st) (kf : b < a → V X kc ks z S I J R (pc + 3) lv st) : V X kc ks z S I J R pc lv (.int (nI b) :: .int (nI a) :: st) := v_icmp_le C tgt d ht (fun h => kt ((nI_leI ha hb).mp h)) (fun h => kf (Nat.lt_of_not_le fun q => h ((nI_leI ha hb).mpr q)))
end VR
end
section
section VH
variable {X : CX} {own : String} {cc : ByteArray} {rm : Room} {T0 : TC} {B0 nL0 : Nat} {kc ks z : Nat} {S : MS} {I : MI} {J : MJ} {R : MR} {pc : Nat} {lv : List (Option Value)} {st : List Value}
theorem P1 {D : va_G} {cl : List vw_C} {a : Nat} {e : va_E} {H : Heap} (h : va_at D cl (a, e) H) : va_P D cl [(a, e)] H := by
  intro k q hk
  match k, hk with
  | 0, hk => cases hk; exact h
/-- getfield of any field -/
theorem v_getG (C : Cx X own cc rm T0 B0 nL0) {a ci k N ix : Nat} {Cn : String} {Tn : u_T} {v : Value} {fs : List Value} (hcl : vwCl[ci]? = some (Cn, Tn, N)) (hin : ∀ w ∈ u_ws Cn Tn N, w ∈ wG) (ha : (S a).1 ≠ 0) (he : cT T0 S I J R a = .inr (ci, fs)) (hk : k < N) (hv : fs[k]? = some v)
    (hlk : Cond.fieldLink own ix (Tn k).1 (Tn k).2.1 (Tn k).2.2.1 ∈ wG) (d : decode cc pc = .ok (.getfield ix, 3)) (kk : V X kc ks z S I J R (pc + 3) lv (v :: st)) : V X kc ks z S I J R pc lv (.ref a :: st) := by
  obtain ⟨p, l, e, Rm, s, m, args, below, meth, c, nL, T, B, Q⟩ := X
  intro H locs ls hR hS hl
  obtain ⟨c1, c2, c3, c4, c5, c6, c7, c8, c9, c10, c11, c12⟩ := id C
  subst c10
  exact va_get c1 c2 c5 hin c4 c6.1 (P1 (hR.at ha he)) 0 rfl hcl k hk (c5 _ hlk) (fun _ h => h) hv d (kk H locs ls hR hS hl)
/-- putfield of any field that isn't final -/
theorem v_putG (C : Cx X own cc rm T0 B0 nL0) {a ci k N ix : Nat} {Cn : String} {Tn : u_T} {v : Value} {fs : List Value} {I' : MI} {J' : MJ} {R' : MR} {ty0 : Nat → FieldType} {ty : FieldType} (hcl : vwCl[ci]? = some (Cn, Tn, N)) (hin : ∀ w ∈ u_ws Cn Tn N, w ∈ wG) (hty : ∀ k, k < N → parseFieldDescriptor (Tn k).2.2.1 = some (ty0 k)) (hnm : ∀ a, a < N → ∀ b, b < N → a ≠ b → (Tn a).2.1 ≠ (Tn b).2.1) (ha : (S a).1 ≠ 0) (he : cT T0 S I J R a = .inr (ci, fs)) (hk : k < N) (hlen : k < fs.length)
    (hfin : (Tn k).2.2.2 = false) (hd : parseFieldDescriptor (Tn k).2.2.1 = some ty) (hn : narrow ty v = v) (hfit : fits ty v = true) (hlk : Cond.fieldLink own ix (Tn k).1 (Tn k).2.1 (Tn k).2.2.1 ∈ wG) (d : decode cc pc = .ok (.putfield ix, 3))
    (he' : cT T0 S I' J' R' a = .inr (ci, fs.set k v)) (ho : ∀ b, b ≠ a → cT T0 S I' J' R' b = cT T0 S I J R b) (kk : V X kc ks z S I' J' R' (pc + 3) lv st) : V X kc ks z S I J R pc lv (v :: .ref a :: st) := by
  obtain ⟨p, l, e, Rm, s, m, args, below, meth, c, nL, T, B, Q⟩ := X
  intro H locs ls hR hS hl
  obtain ⟨c1, c2, c3, c4, c5, c6, c7, c8, c9, c10, c11, c12⟩ := id C
  subst c10
  have hap := va_apart (own := own) c5 hin ty0 hty hnm c6.1 hcl
  obtain ⟨r, h1, cell, q1, q2, q3, q4⟩ := hR.at ha he
  have hr : r = (Cn, Tn, N) := Option.some.inj (h1.symm.trans hcl)
  subst hr
  obtain ⟨hKS, hfc, kC, hkC, hkind⟩ := c6.1.1 ci _ hcl
  obtain ⟨cf, kf, fi, f, hi, hsl⟩ := hKS k hk
  have hlay := c5 _ (hin _ (u_in_lay hk))
  unfold u_lay at hlay
  rw [if_neg (by rw [hfin]; decide)] at hlay
  have hst := (u_facts hfc hkC (u_lays c5 hin hk) hi).1
  have h6 := u_store hfc hkC hkind hlay hi hd hn hfit
  refine W.putK c1 c2 (f := f) ⟨c4, c5 _ hlk, ⟨_, _, _, hi⟩, hst⟩ (by rw [q2]; exact h6) q1 q3 (by rw [hsl]; exact k2_hasslot (q4 k hk)) rfl rfl d fun H' e1 e2 e3 => ?_
  rw [hsl] at e1
  refine kk H' _ ls (hR.put e2 e3 ?_ ho) (hS.put e2 e3 (hR.2.2 a ha).1) hl
  rw [he']
  exact ⟨_, hcl, t_OB.to (V := updV (vp_V fs) k v) ⟨_, e1, q2, q3, t_set q4 hap hk v⟩ (fun j _ => vp_updV_set hlen v j)⟩
def IsInit (X : CX) : Prop := match X with
  | (_, _, _, _, _, _, _, _, meth, _, _, _, _, _) => meth.name = "<init>"
/-- putfield of a final field, in its constructor -/
theorem v_putF (C : Cx X own cc rm T0 B0 nL0) (hI : IsInit X) {a ci k N ix : Nat} {Cn : String} {Tn : u_T} {v : Value} {fs : List Value} {I' : MI} {J' : MJ} {R' : MR} {ty0 : Nat → FieldType} {ty : FieldType} (hcl : vwCl[ci]? = some (Cn, Tn, N)) (hin : ∀ w ∈ u_ws Cn Tn N, w ∈ wG) (hty : ∀ k, k < N → parseFieldDescriptor (Tn k).2.2.1 = some (ty0 k)) (hnm : ∀ a, a < N → ∀ b, b < N → a ≠ b → (Tn a).2.1 ≠ (Tn b).2.1) (ha : (S a).1 ≠ 0) (he : cT T0 S I J R a = .inr (ci, fs)) (hk : k < N) (hlen : k < fs.length)
    (hfin : (Tn k).2.2.2 = true) (hdecl : (Tn k).1 = own) (hd : parseFieldDescriptor (Tn k).2.2.1 = some ty) (hn : narrow ty v = v) (hfit : fits ty v = true) (hlk : Cond.fieldLink own ix (Tn k).1 (Tn k).2.1 (Tn k).2.2.1 ∈ wG) (d : decode cc pc = .ok (.putfield ix, 3))
    (he' : cT T0 S I' J' R' a = .inr (ci, fs.set k v)) (ho : ∀ b, b ≠ a → cT T0 S I' J' R' b = cT T0 S I J R b) (kk : V X kc ks z S I' J' R' (pc + 3) lv st) : V X kc ks z S I J R pc lv (v :: .ref a :: st) := by
  obtain ⟨p, l, e, Rm, s, m, args, below, meth, c, nL, T, B, Q⟩ := X
  intro H locs ls hR hS hl
  obtain ⟨c1, c2, c3, c4, c5, c6, c7, c8, c9, c10, c11, c12⟩ := id C
  subst c10
  have hap := va_apart (own := own) c5 hin ty0 hty hnm c6.1 hcl
  obtain ⟨r, h1, cell, q1, q2, q3, q4⟩ := hR.at ha he
  have hr : r = (Cn, Tn, N) := Option.some.inj (h1.symm.trans hcl)
  subst hr
  obtain ⟨hKS, hfc, kC, hkC, hkind⟩ := c6.1.1 ci _ hcl
  obtain ⟨cf, kf, fi, f, hi, hsl⟩ := hKS k hk
  have hlay := c5 _ (hin _ (u_in_lay hk))
  unfold u_lay at hlay
  rw [if_pos hfin] at hlay
  have hst := (u_facts hfc hkC (u_lays c5 hin hk) hi).1
  have hcf : m.cls = cf := by
    obtain ⟨_, _, c', _, _, _, -, -, hf', -, -, -, hown2, -⟩ := Cond.laysFinal_spec hlay
    have e1 : c' = cf := by have := hi.symm.trans hf'; simp at this; exact this.1.symm
    rw [hdecl] at hown2
    rw [← e1]; exact Option.some.inj (c4.symm.trans hown2)
  have h6 := u_fits hfc hkC hkind (Or.inr hlay) hi hd hn hfit
  refine W.putFinK c1 c2 c4 (c5 _ hlk) hi hst hcf hI (by rw [q2]; exact h6) q1 q3 (by rw [hsl]; exact k2_hasslot (q4 k hk)) rfl rfl d fun H' e1 e2 e3 => ?_
  rw [hsl] at e1
  refine kk H' _ ls (hR.put e2 e3 ?_ ho) (hS.put e2 e3 (hR.2.2 a ha).1) hl
  rw [he']
  exact ⟨_, hcl, t_OB.to (V := updV (vp_V fs) k v) ⟨_, e1, q2, q3, t_set q4 hap hk v⟩ (fun j _ => vp_updV_set hlen v j)⟩
/-! arrays -/
theorem cT7 {T : TC} {a n : Nat} (h : S a = (7, n)) : cT T S I J R a = .inl (T.2.1, n, .inl (I a)) := by simp [cT, h]
theorem cT8 {T : TC} {a n : Nat} (h : S a = (8, n)) : cT T S I J R a = .inl (T.2.2.1, n, .inr (.inl (J a))) := by simp [cT, h]
theorem cT9 {T : TC} {a n : Nat} (h : S a = (9, n)) : cT T S I J R a = .inl (T.2.2.2.1, n, .inl (I a)) := by simp [cT, h]
theorem cT10 {T : TC} {a n : Nat} (h : S a = (10, n)) : cT T S I J R a = .inl (T.2.2.2.2, n, .inr (.inr (.inr (.inr (R a))))) := by simp [cT, h]
theorem sne {a t n : Nat} (h : S a = (t + 1, n)) : (S a).1 ≠ 0 := by rw [h]; exact Nat.succ_ne_zero t
theorem v_iald (C : Cx X own cc rm T0 B0 nL0) {a n : Nat} {i : Int32} (hs : S a = (7, n)) (hi : vp_in i n) (d : decode cc pc = .ok (.iaload, 1)) (kk : V X kc ks z S I J R (pc + 1) lv (.int (I a i.toNatClampNeg) :: st)) : V X kc ks z S I J R pc lv (.int i :: .ref a :: st) := by
  obtain ⟨p, l, e, Rm, s, m, args, below, meth, c, nL, T, B, Q⟩ := X
  intro H locs ls hR hS hl
  obtain ⟨c1, c2, c3, c4, c5, c6, c7, c8, c9, c10, c11, c12⟩ := id C
  exact va_iald (D := T.1) (tys := tys4 T) c1 c2 c6.1 (P1 (hR.at (sne hs) (cT7 hs))) 0 0 rfl rfl hi d (kk H locs ls hR hS hl)
theorem v_lald (C : Cx X own cc rm T0 B0 nL0) {a n : Nat} {i : Int32} (hs : S a = (8, n)) (hi : vp_in i n) (d : decode cc pc = .ok (.laload, 1)) (kk : V X kc ks z S I J R (pc + 1) lv (.long (J a i.toNatClampNeg) :: st)) : V X kc ks z S I J R pc lv (.int i :: .ref a :: st) := by
  obtain ⟨p, l, e, Rm, s, m, args, below, meth, c, nL, T, B, Q⟩ := X
  intro H locs ls hR hS hl
  obtain ⟨c1, c2, c3, c4, c5, c6, c7, c8, c9, c10, c11, c12⟩ := id C
  exact va_lald (D := T.1) (tys := tys4 T) c1 c2 c6.1 (P1 (hR.at (sne hs) (cT8 hs))) 0 1 rfl rfl hi d (kk H locs ls hR hS hl)
theorem v_zald (C : Cx X own cc rm T0 B0 nL0) {a n : Nat} {i : Int32} (hs : S a = (9, n)) (hi : vp_in i n) (d : decode cc pc = .ok (.baload, 1)) (kk : V X kc ks z S I J R (pc + 1) lv (.int (I a i.toNatClampNeg) :: st)) : V X kc ks z S I J R pc lv (.int i :: .ref a :: st) := by
  obtain ⟨p, l, e, Rm, s, m, args, below, meth, c, nL, T, B, Q⟩ := X
  intro H locs ls hR hS hl
  obtain ⟨c1, c2, c3, c4, c5, c6, c7, c8, c9, c10, c11, c12⟩ := id C
  exact va_zald (D := T.1) (tys := tys4 T) c1 c2 c6.1 (P1 (hR.at (sne hs) (cT9 hs))) 0 2 rfl rfl hi d (kk H locs ls hR hS hl)
theorem v_aald (C : Cx X own cc rm T0 B0 nL0) {a n : Nat} {i : Int32} (hs : S a = (10, n)) (hi : vp_in i n) (d : decode cc pc = .ok (.aaload, 1)) (kk : V X kc ks z S I J R (pc + 1) lv (va_rf (R a i.toNatClampNeg) :: st)) : V X kc ks z S I J R pc lv (.int i :: .ref a :: st) := by
  obtain ⟨p, l, e, Rm, s, m, args, below, meth, c, nL, T, B, Q⟩ := X
  intro H locs ls hR hS hl
  obtain ⟨c1, c2, c3, c4, c5, c6, c7, c8, c9, c10, c11, c12⟩ := id C
  exact va_aldq (D := T.1) (tys := tys4 T) c1 c2 c6.1 (P1 (hR.at (sne hs) (cT10 hs))) 0 3 rfl rfl hi d (kk H locs ls hR hS hl)
theorem v_alen (C : Cx X own cc rm T0 B0 nL0) {a n : Nat} (hs : S a = (7, n)) (d : decode cc pc = .ok (.arraylength, 1)) (kk : V X kc ks z S I J R (pc + 1) lv (.int (nI n) :: st)) : V X kc ks z S I J R pc lv (.ref a :: st) := by
  obtain ⟨p, l, e, Rm, s, m, args, below, meth, c, nL, T, B, Q⟩ := X
  intro H locs ls hR hS hl
  obtain ⟨c1, c2, c3, c4, c5, c6, c7, c8, c9, c10, c11, c12⟩ := id C
  exact va_alen (D := T.1) (tys := tys4 T) c1 c2 c6.1 (P1 (hR.at (sne hs) (cT7 hs))) 0 0 rfl rfl rfl d (kk H locs ls hR hS hl)
theorem v_iast (C : Cx X own cc rm T0 B0 nL0) {a n : Nat} {i x : Int32} (hs : S a = (7, n)) (hi : vp_in i n) (d : decode cc pc = .ok (.iastore, 1)) (kk : V X kc ks z S (mu I a i.toNatClampNeg x) J R (pc + 1) lv st) : V X kc ks z S I J R pc lv (.int x :: .int i :: .ref a :: st) := by
  obtain ⟨p, l, e, Rm, s, m, args, below, meth, c, nL, T, B, Q⟩ := X
  intro H locs ls hR hS hl
  obtain ⟨c1, c2, c3, c4, c5, c6, c7, c8, c9, c10, c11, c12⟩ := id C
  have hA := hR.at (sne hs) (cT7 (T := T) (I := I) (J := J) (R := R) hs)
  refine W.iast c1 c2 hA ((c6.1.2 0 _ rfl).1 n (fun j => .int (I a j))) (fun q => by cases q) (by show ¬ (i < 0 ∨ (arrV _ _ _).slots.size ≤ _); rw [arrV_size]; exact hi) rfl rfl d fun H1 e1 z1 oq => ?_
  refine kk H1 _ ls (hR.put z1 oq ?_ (fun b hb => cT_congr T rfl (mu_ne I x hb) rfl rfl)) (hS.put z1 oq (hR.2.2 a (sne hs)).1) hl
  rw [cT7 hs, mu_row]
  show H1[a]? = some (vp_cell _ _)
  rw [e1, vp_cell_i, vp_cell_i, arrV_store]
  congr 2
  funext q
  by_cases hq : q = i.toNatClampNeg
  · subst hq; simp [updV]
  · simp [updV, hq]
theorem v_last (C : Cx X own cc rm T0 B0 nL0) {a n : Nat} {i : Int32} {x : Int64} (hs : S a = (8, n)) (hi : vp_in i n) (d : decode cc pc = .ok (.lastore, 1)) (kk : V X kc ks z S I (mu J a i.toNatClampNeg x) R (pc + 1) lv st) : V X kc ks z S I J R pc lv (.long x :: .int i :: .ref a :: st) := by
  obtain ⟨p, l, e, Rm, s, m, args, below, meth, c, nL, T, B, Q⟩ := X
  intro H locs ls hR hS hl
  obtain ⟨c1, c2, c3, c4, c5, c6, c7, c8, c9, c10, c11, c12⟩ := id C
  have hA := hR.at (sne hs) (cT8 (T := T) (I := I) (J := J) (R := R) hs)
  refine W.last c1 c2 hA ((c6.1.2 1 _ rfl).1 n (fun j => .long (J a j))) (fun q => by cases q) (by show ¬ (i < 0 ∨ (arrV _ _ _).slots.size ≤ _); rw [arrV_size]; exact hi) rfl rfl d fun H1 e1 z1 oq => ?_
  refine kk H1 _ ls (hR.put z1 oq ?_ (fun b hb => cT_congr T rfl rfl (mu_ne J x hb) rfl)) (hS.put z1 oq (hR.2.2 a (sne hs)).1) hl
  rw [cT8 hs, mu_row]
  show H1[a]? = some (vp_cell _ _)
  rw [e1, vp_cell_l, vp_cell_l, arrV_store]
  congr 2
  funext q
  by_cases hq : q = i.toNatClampNeg
  · subst hq; simp [updV]
  · simp [updV, hq]
theorem v_zast (C : Cx X own cc rm T0 B0 nL0) {a n : Nat} {i x : Int32} (hs : S a = (9, n)) (hi : vp_in i n) (hx : narrow .boolean (.int x) = .int x) (d : decode cc pc = .ok (.bastore, 1)) (kk : V X kc ks z S (mu I a i.toNatClampNeg x) J R (pc + 1) lv st) : V X kc ks z S I J R pc lv (.int x :: .int i :: .ref a :: st) := by
  obtain ⟨p, l, e, Rm, s, m, args, below, meth, c, nL, T, B, Q⟩ := X
  intro H locs ls hR hS hl
  obtain ⟨c1, c2, c3, c4, c5, c6, c7, c8, c9, c10, c11, c12⟩ := id C
  have hA := hR.at (sne hs) (cT9 (T := T) (I := I) (J := J) (R := R) hs)
  refine W.zast c1 c2 hA ((c6.1.2 2 _ rfl).1 n (fun j => .int (I a j))) (fun q => by cases q) (by show ¬ (i < 0 ∨ (arrV _ _ _).slots.size ≤ _); rw [arrV_size]; exact hi) rfl rfl d fun H1 e1 z1 oq => ?_
  refine kk H1 _ ls (hR.put z1 oq ?_ (fun b hb => cT_congr T rfl (mu_ne I x hb) rfl rfl)) (hS.put z1 oq (hR.2.2 a (sne hs)).1) hl
  rw [cT9 hs, mu_row]
  show H1[a]? = some (vp_cell _ _)
  rw [e1, hx, vp_cell_i, vp_cell_i, arrV_store]
  congr 2
  funext q
  by_cases hq : q = i.toNatClampNeg
  · subst hq; simp [updV]
  · simp [updV, hq]
theorem v_aast (C : Cx X own cc rm T0 B0 nL0) {a n v : Nat} {i : Int32} (hs : S a = (10, n)) (hv : S v = (3, 0)) (hi : vp_in i n) (d : decode cc pc = .ok (.aastore, 1)) (kk : V X kc ks z S I J (mu R a i.toNatClampNeg (some v)) (pc + 1) lv st) : V X kc ks z S I J R pc lv (.ref v :: .int i :: .ref a :: st) := by
  obtain ⟨p, l, e, Rm, s, m, args, below, meth, c, nL, T, B, Q⟩ := X
  intro H locs ls hR hS hl
  obtain ⟨c1, c2, c3, c4, c5, c6, c7, c8, c9, c10, c11, c12⟩ := id C
  have hA := hR.at (sne hs) (cT10 (T := T) (I := I) (J := J) (R := R) hs)
  have hlt : i.toNatClampNeg < n := Nat.not_le.mp fun q => hi (Or.inr q)
  have h0 : ¬ i < 0 := fun q => hi (Or.inl q)
  obtain ⟨r', hr', cellV, g1, g2, g3, -⟩ := hR.at (sne hv) (e := .inr (2, _)) (by simp only [cT, hv]; rfl)
  have hc : vwCl[2]? = some (RX2, TX2, 9) := rfl
  have hcls := (c6.1.1 2 _ hc).2
  obtain ⟨kA, comp, k1, k2, k3, -⟩ := (c6.1.2 3 _ rfl).2
  have hcomp : comp = T.1.1 2 := Option.some.inj (k3.symm.trans hcls.1)
  subst hcomp
  obtain ⟨kC, hkC, -⟩ := hcls.2
  refine W.aast c1 c2 hA (fun q h => by cases h) (fun h => by cases h) k1 k2 rfl hkC ⟨h0, by show _ < (arrV _ _ _).slots.size; rw [arrV_size]; exact hlt⟩ g1 (fun q h => by rw [g3] at h; cases h) (by rw [g2]; exact hkC) (by rw [g2]; exact va_assign hcls) rfl rfl d fun H1 e1 z1 oq => ?_
  refine kk H1 _ ls (hR.put z1 oq ?_ (fun b hb => cT_congr T rfl rfl rfl (mu_ne R (some v) hb))) (hS.put z1 oq (hR.2.2 a (sne hs)).1) hl
  rw [cT10 hs, mu_row]
  show H1[a]? = some (vp_cell _ _)
  rw [e1, vp_cell_q, vp_cell_q, arrV_store]
  congr 2
  funext q
  by_cases hq : q = i.toNatClampNeg
  · subst hq; simp [updV, va_rf]
  · simp [updV, hq]
/-! new cells -/
theorem v_newI (C : Cx X own cc rm T0 B0 nL0) {N : Nat} (hN : N < 100000) (hc : kc + 1 ≤ rm.cells) (hs : ks + N ≤ rm.slots) (d : decode cc pc = .ok (.newarray .int, 2)) (kk : V X (kc + 1) (ks + N) (z + 1) (su S z 7 N) (mz I z 0) J R (pc + 2) lv (.ref z :: st)) : V X kc ks z S I J R pc lv (.int (nI N) :: st) := by
  obtain ⟨p, l, e, Rm, s, m, args, below, meth, c, nL, T, B, Q⟩ := X
  intro H locs ls hR hS hl
  obtain ⟨c1, c2, c3, c4, c5, c6, c7, c8, c9, c10, c11, c12⟩ := id C
  subst c9
  refine va_newaK (N := N) c1 c2 (atype := .int) (c5 (.arrayClass .int) wt_40) rfl d rfl (nI_pos (by omega)) (nI_clamp (by omega)) (by show N * 4 ≤ _; omega) hc hs hR.1 fun H1 cA e1 z1 o1 hAr hNm => ?_
  have hcA : cA = T.2.1 := Option.some.inj (hNm.symm.trans (c6.1.2 0 _ rfl).2)
  subst hcA
  refine kk H1 _ ls (hR.push z1 o1 ?_ (fun b hb => ⟨su_ne S hb, cT_congr T (su_ne S hb) (mz_ne I 0 hb) rfl rfl⟩)) ⟨Nat.le_trans hS.1 (by rw [hR.1]; omega), fun x h1 h2 => (o1 x (by have := hS.1; rw [hR.1] at this; omega)).trans (hS.2.1 x h1 h2), hS.2.2⟩ hl
  rw [cT7 (su_at S z 7 N)]
  show H1[z]? = some (vp_cell _ _)
  rw [e1, vp_cell_i, show mz I z 0 z = fun _ => 0 from funext (mz_at I z 0)]
  rfl
theorem v_newJ (C : Cx X own cc rm T0 B0 nL0) {N : Nat} (hN : N < 100000) (hc : kc + 1 ≤ rm.cells) (hs : ks + N ≤ rm.slots) (harr : Cond.arrayClass .long ∈ wG) (d : decode cc pc = .ok (.newarray .long, 2)) (kk : V X (kc + 1) (ks + N) (z + 1) (su S z 8 N) I (mz J z 0) R (pc + 2) lv (.ref z :: st)) : V X kc ks z S I J R pc lv (.int (nI N) :: st) := by
  obtain ⟨p, l, e, Rm, s, m, args, below, meth, c, nL, T, B, Q⟩ := X
  intro H locs ls hR hS hl
  obtain ⟨c1, c2, c3, c4, c5, c6, c7, c8, c9, c10, c11, c12⟩ := id C
  subst c9
  refine va_newaK (N := N) c1 c2 (atype := .long) (c5 (.arrayClass .long) harr) rfl d rfl (nI_pos (by omega)) (nI_clamp (by omega)) (by show N * 8 ≤ _; omega) hc hs hR.1 fun H1 cA e1 z1 o1 hAr hNm => ?_
  have hcA : cA = T.2.2.1 := Option.some.inj (hNm.symm.trans (c6.1.2 1 _ rfl).2)
  subst hcA
  refine kk H1 _ ls (hR.push z1 o1 ?_ (fun b hb => ⟨su_ne S hb, cT_congr T (su_ne S hb) rfl (mz_ne J 0 hb) rfl⟩)) ⟨Nat.le_trans hS.1 (by rw [hR.1]; omega), fun x h1 h2 => (o1 x (by have := hS.1; rw [hR.1] at this; omega)).trans (hS.2.1 x h1 h2), hS.2.2⟩ hl
  rw [cT8 (su_at S z 8 N)]
  show H1[z]? = some (vp_cell _ _)
  rw [e1, vp_cell_l, show mz J z 0 z = fun _ => 0 from funext (mz_at J z 0)]
  rfl
theorem v_newZ (C : Cx X own cc rm T0 B0 nL0) {N : Nat} (hN : N < 100000) (hc : kc + 1 ≤ rm.cells) (hs : ks + N ≤ rm.slots) (harr : Cond.arrayClass .boolean ∈ wG) (d : decode cc pc = .ok (.newarray .boolean, 2)) (kk : V X (kc + 1) (ks + N) (z + 1) (su S z 9 N) (mz I z 0) J R (pc + 2) lv (.ref z :: st)) : V X kc ks z S I J R pc lv (.int (nI N) :: st) := by
  obtain ⟨p, l, e, Rm, s, m, args, below, meth, c, nL, T, B, Q⟩ := X
  intro H locs ls hR hS hl
  obtain ⟨c1, c2, c3, c4, c5, c6, c7, c8, c9, c10, c11, c12⟩ := id C
  subst c9
  refine va_newaK (N := N) c1 c2 (atype := .boolean) (c5 (.arrayClass .boolean) harr) rfl d rfl (nI_pos (by omega)) (nI_clamp (by omega)) (by show N * 1 ≤ _; omega) hc hs hR.1 fun H1 cA e1 z1 o1 hAr hNm => ?_
  have hcA : cA = T.2.2.2.1 := Option.some.inj (hNm.symm.trans (c6.1.2 2 _ rfl).2)
  subst hcA
  refine kk H1 _ ls (hR.push z1 o1 ?_ (fun b hb => ⟨su_ne S hb, cT_congr T (su_ne S hb) (mz_ne I 0 hb) rfl rfl⟩)) ⟨Nat.le_trans hS.1 (by rw [hR.1]; omega), fun x h1 h2 => (o1 x (by have := hS.1; rw [hR.1] at this; omega)).trans (hS.2.1 x h1 h2), hS.2.2⟩ hl
  rw [cT9 (su_at S z 9 N)]
  show H1[z]? = some (vp_cell _ _)
  rw [e1, vp_cell_i, show mz I z 0 z = fun _ => 0 from funext (mz_at I z 0)]
  rfl
theorem v_newR (C : Cx X own cc rm T0 B0 nL0) {N ix : Nat} (hN : N < 100000) (hc : kc + 1 ≤ rm.cells) (hs : ks + N ≤ rm.slots) (hlk : Cond.classLink own ix RX2 ∈ wG) (d : decode cc pc = .ok (.anewarray ix, 3)) (kk : V X (kc + 1) (ks + N) (z + 1) (su S z 10 N) I J (mz R z none) (pc + 3) lv (.ref z :: st)) : V X kc ks z S I J R pc lv (.int (nI N) :: st) := by
  obtain ⟨p, l, e, Rm, s, m, args, below, meth, c, nL, T, B, Q⟩ := X
  intro H locs ls hR hS hl
  obtain ⟨c1, c2, c3, c4, c5, c6, c7, c8, c9, c10, c11, c12⟩ := id C
  subst c9
  have hcl : (nI N).toNatClampNeg = N := nI_clamp (by omega)
  refine W.anew c1 c2 c4 (c5 _ hlk) (va_AO.use c6.2.1) rfl d rfl (nI_pos (by omega)) (by rw [hcl]; omega) hc (by rw [hcl]; exact hs) fun cA kA comp f1 f2 f3 f4 => ?_
  rw [hcl]
  generalize hH1 : H.push ({ cls := cA, slots := Array.replicate N .null, vm := .none } : Cell) = H1
  have z1 : H1.size = z + 1 := by rw [← hH1, Array.size_push, hR.1]
  have e1 : H1[z]? = some (arrV cA N (fun _ => .null)) := by rw [← hH1, ← hR.1, Array.getElem?_push_size, ← arrV_new]
  have o1 : ∀ q : Nat, q < z → H1[q]? = H[q]? := fun q hq => by rw [← hH1, Array.getElem?_push, if_neg (by rw [hR.1]; exact Nat.ne_of_lt hq)]
  obtain ⟨kB, comp', b1, b2, b3, b4⟩ := (c6.1.2 3 _ rfl).2
  have hcA : cA = T.2.2.2.2 := Option.some.inj (f1.symm.trans b4)
  subst hcA
  rw [show H.size = z from hR.1]
  refine kk H1 _ ls (hR.push z1 o1 ?_ (fun b hb => ⟨su_ne S hb, cT_congr T (su_ne S hb) rfl rfl (mz_ne R none hb)⟩)) ⟨Nat.le_trans hS.1 (by rw [hR.1]; omega), fun x h1 h2 => (o1 x (by have := hS.1; rw [hR.1] at this; omega)).trans (hS.2.1 x h1 h2), hS.2.2⟩ hl
  rw [cT10 (su_at S z 10 N)]
  show H1[z]? = some (vp_cell _ _)
  rw [e1, vp_cell_q, show mz R z none z = fun _ => none from funext (mz_at R z none)]
  rfl
theorem v_newG (C : Cx X own cc rm T0 B0 nL0) {ci N ix : Nat} {Cn : String} {Tn : u_T} {fs : List Value} (hcl : vwCl[ci]? = some (Cn, Tn, N)) (hin : ∀ w ∈ u_ws Cn Tn N, w ∈ wG) (ty : Nat → FieldType) (hty : ∀ k, k < N → parseFieldDescriptor (Tn k).2.2.1 = some (ty k)) (hfs : ∀ j, j < N → defaultValue (ty j) = vp_V fs j) (hlk : Cond.classLink own ix Cn ∈ wG) (hinst : Cond.instantiable Cn N ∈ wG) (hini : Cond.initialized Cn ∈ wG) (hc : kc + 1 ≤ rm.cells) (hs : ks + N ≤ rm.slots) (d : decode cc pc = .ok (.new ix, 3))
    (he : cT T0 (su S z (ci + 1) 0) (mz I z 0) (mz J z 0) (mz R z none) z = .inr (ci, fs)) (kk : V X (kc + 1) (ks + N) (z + 1) (su S z (ci + 1) 0) (mz I z 0) (mz J z 0) (mz R z none) (pc + 3) lv (.ref z :: st)) : V X kc ks z S I J R pc lv st := by
  obtain ⟨p, l, e, Rm, s, m, args, below, meth, c, nL, T, B, Q⟩ := X
  intro H locs ls hR hS hl
  obtain ⟨c1, c2, c3, c4, c5, c6, c7, c8, c9, c10, c11, c12⟩ := id C
  subst c9
  subst c10
  have hKn := c6.1.1 ci _ hcl
  refine W.newcK c1 c2 c4 (c5 _ hlk) (c5 _ hinst) (c5 _ hini) rfl d hc hs hKn.2.1 hR.1 fun H1 kC hkC e1 z1 o1 => ?_
  refine kk H1 _ ls (hR.push z1 o1 ?_ (fun b hb => ⟨su_ne S hb, cT_congr T (su_ne S hb) (mz_ne I 0 hb) (mz_ne J 0 hb) (mz_ne R none hb)⟩)) ⟨Nat.le_trans hS.1 (by rw [hR.1]; omega), fun x h1 h2 => (o1 x (by have := hS.1; rw [hR.1] at this; omega)).trans (hS.2.1 x h1 h2), hS.2.2⟩ hl
  rw [he]
  exact ⟨_, hcl, (u_born ty c5 hin hKn hkC e1 hty).to hfs⟩
theorem v_objInit (C : Cx X own cc rm T0 B0 nL0) {a ix : Nat} (hlk : Cond.methodLink own ix Lib.objectInit ∈ wG) (hf : 1 ≤ rm.frames) (hl2 : (st.map fun v => v.category).sum + 12 ≤ rm.locals) (d : decode cc pc = .ok (.invokespecial ix, 3)) (kk : V X kc ks z S I J R (pc + 3) lv st) : V X kc ks z S I J R pc lv (.ref a :: st) := by
  obtain ⟨p, l, e, Rm, s, m, args, below, meth, c, nL, T, B, Q⟩ := X
  intro H locs ls hR hS hl
  obtain ⟨c1, c2, c3, c4, c5, c6, c7, c8, c9, c10, c11, c12⟩ := id C
  subst c9
  exact W.objInit c1 c2 c4 (c5 _ hlk) (c5 (.instanceMethod Lib.objectInit) wt_17) (c5 (.code Lib.objectInit ⟨#[0xb1]⟩ 1 none) wt_18) rfl (by rw [c3]; exact hl.1) rfl d hf (by show 2 * 0 + _ + 12 ≤ _; omega) (kk H locs ls hR hS hl)
end VH
end
section
/-! ends of methods, contracts, calls -/
abbrev PT : Type := Int32 → Int64 → Option Nat → Nat → MS → MI → MJ → MR → Prop
abbrev Sp : Type := List Value → Nat → MS → MI → MJ → MR → PT → Prop
/-- what a method gives back: 0 nothing, 1 an int, 2 a long, 3 a reference -/
def rvv (kd : Nat) (i : Int32) (j : Int64) (r : Option Nat) : List Value := match kd with
  | 0 => []
  | 1 => [.int i]
  | 2 => [.long j]
  | _ => [va_rf r]
def Qx (T : TC) (B kd : Nat) (Post : PT) : Array Value → State → Outcome → State → Prop := fun _ st o t => ∃ (i : Int32) (j : Int64) (r : Option Nat) (z : Nat) (S : MS) (I : MI) (J : MJ) (R : MR), o = .returned (rvv kd i j r).head? ∧ Post i j r z S I J R ∧ Rep T B z S I J R t.heap ∧ va_F (fun q => B ≤ q) st t
def Rt (X : CX) (rt : Option FieldType) (kd mc ms : Nat) (Post : PT) : Prop := match X with
  | (_, _, _, _, s, _, args, below, meth, _, _, T, B, Q) => meth.sig.returnType = rt ∧ Q = MQ below (Qx T B kd Post) args s mc ms (fun q => B ≤ q)
def Mt (T : TC) (B : Nat) (y : MethodName) (cc : ByteArray) (maxL : Nat) (ret : Option FieldType) (kd : Nat) (rm : Room) (sp : Sp) : Prop :=
  ∀ (l : Launch) (av : List Value) (z : Nat) (S : MS) (I : MI) (J : MJ) (R : MR) (Post : PT), sp av z S I J R Post → Met l y (Cond.code y cc maxL ret :: wG) rm (va_Pc av (fun U => Rep T B z S I J R U.heap ∧ Kx T U)) (Qx T B kd Post) rm.cells rm.slots (fun q => B ≤ q)
theorem Mt_of {T : TC} {B : Nat} {y : MethodName} {cc : ByteArray} {maxL : Nat} {ret : Option FieldType} {kd : Nat} {rm : Room} {sp : Sp} (hy : plainName y.cls = true) (hfit : ∀ av z S I J R Post, sp av z S I J R Post → (lg_sl av).length ≤ maxL)
    (body : ∀ X av z S I J R Post, sp av z S I J R Post → Cx X y.cls cc rm T B maxL → Rt X ret kd rm.cells rm.slots Post → (y.name = "<init>" → IsInit X) → V X 0 0 z S I J R 0 (ent av maxL) []) : Mt T B y cc maxL ret kd rm sp := by
  intro l av z S I J R Post hsp
  refine Met.ofW (cc := cc) (maxL := maxL) (ret := ret) hy rfl ?_
  intro p e s m args below meth c s₁ Bd hml hv
  obtain ⟨rfl, hR, hK⟩ := hv
  have hts := atoms_spec (ws := Cond.code y cc maxL ret :: wG) Bd.pre
  have hl := lv_entry av (n := maxL) (hfit av z S I J R Post hsp)
  rw [lg_entry_eq]
  generalize (lg_sl av ++ List.replicate (maxL - (lg_sl av).length) Slot.unset).toArray = ls at hl ⊢
  exact body (p, l, e, rm, s, m, av.toArray, below, meth, c, maxL, T, B, MQ below (Qx T B kd Post) av.toArray s rm.cells rm.slots (fun q => B ≤ q)) av z S I J R Post hsp
    ⟨Bd.exec, Bd.bytes, hml, findClass_of_methodNamed Bd.named, fun w hw => hts w (List.mem_cons_of_mem _ hw), hK, by rw [hR.1]; exact hR.2.1, Bd.notSynchronized, rfl, rfl, rfl, rfl⟩ ⟨Bd.returns, rfl⟩ (fun hn => ((name_of_methodNamed Bd.named Bd.method).1).trans hn)
    s.heap [] ls hR va_S.rf (lvh_ent hl)
section VC
variable {X : CX} {own : String} {cc : ByteArray} {rm : Room} {T0 : TC} {B0 nL0 : Nat} {kc ks z : Nat} {S : MS} {I : MI} {J : MJ} {R : MR} {pc : Nat} {lv : List (Option Value)} {st : List Value} {mc ms : Nat} {Post : PT}
theorem v_iret (C : Cx X own cc rm T0 B0 nL0) (Q : Rt X (some .int) 1 mc ms Post) {x : Int32} (d : decode cc pc = .ok (.ireturn, 1)) (h1 : kc ≤ mc) (h2 : ks ≤ ms) (hp : Post x 0 none z S I J R) : V X kc ks z S I J R pc lv [.int x] := by
  obtain ⟨p, l, e, Rm, s, m, args, below, meth, c, nL, T, B, Q0⟩ := X
  intro H locs ls hR hS hl
  obtain ⟨c1, c2, c3, c4, c5, c6, c7, c8, c9, c10, c11, c12⟩ := id C
  obtain ⟨hr, rfl⟩ := Q
  refine W.widen h1 h2 ?_
  exact W.iret c1 c2 hr (fun t ht hW => ⟨x, 0, none, z, S, I, J, R, rfl, hp, by rw [ht]; exact hR, hS.F ht⟩) hS.2.2 d c8
theorem v_zret (C : Cx X own cc rm T0 B0 nL0) (Q : Rt X (some .boolean) 1 mc ms Post) {x : Int32} (d : decode cc pc = .ok (.ireturn, 1)) (h1 : kc ≤ mc) (h2 : ks ≤ ms) (hx : narrow .boolean (.int x) = .int x) (hp : Post x 0 none z S I J R) : V X kc ks z S I J R pc lv [.int x] := by
  obtain ⟨p, l, e, Rm, s, m, args, below, meth, c, nL, T, B, Q0⟩ := X
  intro H locs ls hR hS hl
  obtain ⟨c1, c2, c3, c4, c5, c6, c7, c8, c9, c10, c11, c12⟩ := id C
  obtain ⟨hr, rfl⟩ := Q
  refine W.widen h1 h2 ?_
  exact W.zret c1 c2 hr hx (fun t ht hW => ⟨x, 0, none, z, S, I, J, R, rfl, hp, by rw [ht]; exact hR, hS.F ht⟩) hS.2.2 d c8
theorem v_lret (C : Cx X own cc rm T0 B0 nL0) (Q : Rt X (some .long) 2 mc ms Post) {x : Int64} (d : decode cc pc = .ok (.lreturn, 1)) (h1 : kc ≤ mc) (h2 : ks ≤ ms) (hp : Post 0 x none z S I J R) : V X kc ks z S I J R pc lv [.long x] := by
  obtain ⟨p, l, e, Rm, s, m, args, below, meth, c, nL, T, B, Q0⟩ := X
  intro H locs ls hR hS hl
  obtain ⟨c1, c2, c3, c4, c5, c6, c7, c8, c9, c10, c11, c12⟩ := id C
  obtain ⟨hr, rfl⟩ := Q
  refine W.widen h1 h2 ?_
  exact W.lret c1 c2 hr (fun t ht hW => ⟨0, x, none, z, S, I, J, R, rfl, hp, by rw [ht]; exact hR, hS.F ht⟩) hS.2.2 d c8
theorem v_ret (C : Cx X own cc rm T0 B0 nL0) (Q : Rt X none 0 mc ms Post) (d : decode cc pc = .ok (.return_, 1)) (h1 : kc ≤ mc) (h2 : ks ≤ ms) (hp : Post 0 0 none z S I J R) : V X kc ks z S I J R pc lv [] := by
  obtain ⟨p, l, e, Rm, s, m, args, below, meth, c, nL, T, B, Q0⟩ := X
  intro H locs ls hR hS hl
  obtain ⟨c1, c2, c3, c4, c5, c6, c7, c8, c9, c10, c11, c12⟩ := id C
  obtain ⟨hr, rfl⟩ := Q
  refine W.widen h1 h2 ?_
  exact W.vret c1 c2 hr (fun t ht hW => ⟨0, 0, none, z, S, I, J, R, rfl, hp, by rw [ht]; exact hR, hS.F ht⟩) hS.2.2 d c8
theorem v_aret {rt : FieldType} (C : Cx X own cc rm T0 B0 nL0) (Q : Rt X (some rt) 3 mc ms Post) {r : Option Nat} (d : decode cc pc = .ok (.areturn, 1)) (h1 : kc ≤ mc) (h2 : ks ≤ ms) (hrt : (∃ n, rt = .object n) ∨ ∃ t, rt = .array t) (hp : Post 0 0 r z S I J R) : V X kc ks z S I J R pc lv [va_rf r] := by
  obtain ⟨p, l, e, Rm, s, m, args, below, meth, c, nL, T, B, Q0⟩ := X
  intro H locs ls hR hS hl
  obtain ⟨c1, c2, c3, c4, c5, c6, c7, c8, c9, c10, c11, c12⟩ := id C
  obtain ⟨hr, rfl⟩ := Q
  refine W.widen h1 h2 ?_
  exact W.aret c1 c2 hr hrt (by cases r with | none => exact Or.inl rfl | some a => exact Or.inr ⟨a, rfl⟩) (fun t ht hW => ⟨0, 0, r, z, S, I, J, R, rfl, hp, by rw [ht]; exact hR, hS.F ht⟩) hS.2.2 d c8
/-- a call's words -/
def LkB (own : String) (ix : Nat) (y : MethodName) (bytes : ByteArray) (maxL : Nat) (ret : Option FieldType) (n : Nat) : Prop :=
  Cond.methodLink own ix y ∈ wG ∧ Cond.initialized y.cls ∈ wG ∧ Cond.code y bytes maxL ret ∈ wG ∧ (y.cls ≠ "java/lang/invoke/MethodHandle" ∧ y.cls ≠ "java/lang/invoke/VarHandle" ∧ (parseMethodDescriptor y.desc).map (fun d => d.parameters.length) = some n)
theorem good_ws {y : MethodName} {bytes : ByteArray} {maxL : Nat} {ret : Option FieldType} (h : Cond.code y bytes maxL ret ∈ wG) : GoodIn wG (Cond.code y bytes maxL ret :: wG) := by
  intro w hw
  rcases List.mem_cons.mp hw with rfl | hw
  · exact ⟨h, good_of_word (wg_good h)⟩
  · exact ⟨hw, good_of_word (wg_good hw)⟩
theorem blindK {T : TC} {B z : Nat} {S : MS} {I : MI} {J : MJ} {R : MR} {av : List Value} : FrameBlind (va_Pc av (fun U => Rep T B z S I J R U.heap ∧ Kx T U)) := fun a U g mk q => ⟨q.1, q.2.1, q.2.2.calling g mk a⟩
/-- what any call comes to -/
theorem v_run {p : Program} {l : Launch} {e : Env} {Rm : Room} {s : State} {m : MethodId} {args : Array Value} {below : List Frame} {meth : Method} {c : Code} {nL B kd mc ms : Nat} {T : TC} {Q : State → Prop} {H : Heap} {locs : List Loc} {ls : Array Slot} {st0 rest : List Value} {av : Array Value}
    (hS : va_S (fun q => B ≤ q) s.heap H locs) (hl : lvh ls nL lv)
    (hr : va_Run p l e Rm s m args below meth c H locs kc ks mc ms (F0 m pc ls st0) rest (Qx T B kd (fun i j r z' S' I' J' R' => V (p, l, e, Rm, s, m, args, below, meth, c, nL, T, B, Q) (kc + mc) (ks + ms) z' S' I' J' R' (pc + 3) lv (rvv kd i j r ++ rest)) av) (fun q => B ≤ q)) :
    W p l e Rm s m args below meth c H locs kc ks Q (F0 m pc ls st0) := by
  intro T1 hT X1
  obtain ⟨v, st₀, t, T', L, h0, X', hL, e1, e2, ⟨i, j, r, z', S', I', J', R', hv, hp, hrep, hF⟩, stp⟩ := hr T1 hT X1
  have hv' : v.toList ++ rest = rvv kd i j r ++ rest := by
    have h9 : v = (rvv kd i j r).head? := by injection hv
    rw [h9]
    unfold rvv
    match kd with
    | 0 => rfl
    | 1 => rfl
    | 2 => rfl
    | n + 3 => rfl
  have hF' := hF
  obtain ⟨hz, hk⟩ := hF'
  rw [h0] at hz hk
  obtain ⟨t2, a1, b1⟩ := hp T'.heap (locs ++ L) ls (by rw [e1]; exact hrep) ⟨Nat.le_trans hS.1 (by rw [e1]; exact hz), fun q h1 h2 => by rw [e1, hk q (Nat.lt_of_lt_of_le h1 hS.1) h2]; exact hS.2.1 q h1 h2, fun q hq => by
      rcases List.mem_append.mp hq with h | h
      · exact hS.2.2 q h
      · exact hL q h⟩ hl T' rfl X'
  refine ⟨t2, stp t2 ?_, b1⟩
  show Steps p.tables e below (T'.setTop (F0 m (pc + 3) ls (v.toList ++ rest))) t2
  rw [hv']
  exact a1
theorem v_callV (C : Cx X own cc rm T0 B0 nL0) {y : MethodName} {bytes : ByteArray} {maxL : Nat} {ret : Option FieldType} {kd : Nat} {rm' : Room} {sp : Sp} (M : Mt T0 B0 y bytes maxL ret kd rm' sp) {ix n : Nat} (lk : LkB own ix y bytes maxL ret n) (lk2 : Cond.instanceMethod y ∈ wG ∧ Cond.selects y.cls y y ∈ wG) (ci : Nat) {Tn : u_T} {N : Nat} (hcl : vwCl[ci]? = some (y.cls, Tn, N)) (d : decode cc pc = .ok (.invokevirtual ix, 3))
    (hroom : rm'.frames + 1 ≤ rm.frames ∧ 8 + (maxL + 11) + rm'.locals ≤ rm.locals) {b : Nat} (av : List Value) (rest : List Value) (hlen : av.length = n) (hst : st = av.reverse ++ .ref b :: rest) (hcat : (rest.map fun v => v.category).sum ≤ 8) (hf : kc + rm'.cells ≤ rm.cells ∧ ks + rm'.slots ≤ rm.slots) (hb : S b = (ci + 1, 0)) {fs : List Value} (hfs : cT T0 S I J R b = .inr (ci, fs))
    (h : sp (.ref b :: av) z S I J R (fun i j r z' S' I' J' R' => V X (kc + rm'.cells) (ks + rm'.slots) z' S' I' J' R' (pc + 3) lv (rvv kd i j r ++ rest))) : V X kc ks z S I J R pc lv st := by
  obtain ⟨p, l, e, Rm, s, m, args, below, meth, c, nL, T, B, Q⟩ := X
  intro H locs ls hR hS hl
  obtain ⟨c1, c2, c3, c4, c5, c6, c7, c8, c9, c10, c11, c12⟩ := id C
  subst c9 c10 c11
  have cw := callB_of (R := Rm) (s := s) (args := args) (own := own) (index := ix) n c5 (good_ws lk.2.2.1) rfl (rm := rm') rfl rfl (c5 _ lk.2.1) (c5 _ lk.1) lk.2.2.2 hroom
  have hrec := va_recv (D := T.1) (tys := tys4 T) c6.1 (P1 (hR.at (sne hb) hfs)) hcl (q0 := 0) rfl
  exact v_run hS hl (va_runV ⟨c1, c2, c3, c4, c5⟩ (M l _ z S I J R _ h) ⟨cw, c5 _ lk2.1, c5 _ lk2.2⟩ ⟨blindK, hrec, fun U hU hW => ⟨rfl, by rw [hU]; exact hR, c6.warm hW⟩⟩ rfl hlen hl.1 hst (lv_room hcat) d hf)
theorem v_callS (C : Cx X own cc rm T0 B0 nL0) {y : MethodName} {bytes : ByteArray} {maxL : Nat} {ret : Option FieldType} {kd : Nat} {rm' : Room} {sp : Sp} (M : Mt T0 B0 y bytes maxL ret kd rm' sp) {ix n : Nat} (lk : LkB own ix y bytes maxL ret n) (lk2 : Cond.static y ∈ wG) (d : decode cc pc = .ok (.invokestatic ix, 3))
    (hroom : rm'.frames + 1 ≤ rm.frames ∧ 8 + (maxL + 11) + rm'.locals ≤ rm.locals) (av : List Value) (rest : List Value) (hlen : av.length = n) (hst : st = av.reverse ++ rest) (hcat : (rest.map fun v => v.category).sum ≤ 8) (hf : kc + rm'.cells ≤ rm.cells ∧ ks + rm'.slots ≤ rm.slots)
    (h : sp av z S I J R (fun i j r z' S' I' J' R' => V X (kc + rm'.cells) (ks + rm'.slots) z' S' I' J' R' (pc + 3) lv (rvv kd i j r ++ rest))) : V X kc ks z S I J R pc lv st := by
  obtain ⟨p, l, e, Rm, s, m, args, below, meth, c, nL, T, B, Q⟩ := X
  intro H locs ls hR hS hl
  obtain ⟨c1, c2, c3, c4, c5, c6, c7, c8, c9, c10, c11, c12⟩ := id C
  subst c9 c10 c11
  have cw := callB_of (R := Rm) (s := s) (args := args) (own := own) (index := ix) n c5 (good_ws lk.2.2.1) rfl (rm := rm') rfl rfl (c5 _ lk.2.1) (c5 _ lk.1) lk.2.2.2 hroom
  exact v_run hS hl (va_runS ⟨c1, c2, c3, c4, c5⟩ (M l _ z S I J R _ h) ⟨cw, c5 _ lk2⟩ ⟨blindK, fun U hU hW => ⟨rfl, by rw [hU]; exact hR, c6.warm hW⟩⟩ rfl hlen hl.1 hst (lv_room hcat) d hf)
theorem v_callI (C : Cx X own cc rm T0 B0 nL0) {y : MethodName} {bytes : ByteArray} {maxL : Nat} {rm' : Room} {sp : Sp} (M : Mt T0 B0 y bytes maxL none 0 rm' sp) {ix n : Nat} (lk : LkB own ix y bytes maxL none n) (hy : y.name = "<init>") (lk2 : Cond.instanceMethod y ∈ wG) (d : decode cc pc = .ok (.invokespecial ix, 3))
    (hroom : rm'.frames + 1 ≤ rm.frames ∧ 8 + (maxL + 11) + rm'.locals ≤ rm.locals) {b : Nat} (av : List Value) (rest : List Value) (hlen : av.length = n) (hst : st = av.reverse ++ .ref b :: rest) (hcat : (rest.map fun v => v.category).sum ≤ 8) (hf : kc + rm'.cells ≤ rm.cells ∧ ks + rm'.slots ≤ rm.slots)
    (h : sp (.ref b :: av) z S I J R (fun _ _ _ z' S' I' J' R' => V X (kc + rm'.cells) (ks + rm'.slots) z' S' I' J' R' (pc + 3) lv rest)) : V X kc ks z S I J R pc lv st := by
  obtain ⟨p, l, e, Rm, s, m, args, below, meth, c, nL, T, B, Q⟩ := X
  intro H locs ls hR hS hl
  obtain ⟨c1, c2, c3, c4, c5, c6, c7, c8, c9, c10, c11, c12⟩ := id C
  subst c9 c10 c11
  have cw := callB_of (R := Rm) (s := s) (args := args) (own := own) (index := ix) n c5 (good_ws lk.2.2.1) rfl (rm := rm') rfl rfl (c5 _ lk.2.1) (c5 _ lk.1) lk.2.2.2 hroom
  exact v_run (kd := 0) hS hl (va_runI ⟨c1, c2, c3, c4, c5⟩ (M l _ z S I J R _ h) ⟨cw, hy, c5 _ lk2⟩ ⟨blindK, fun U hU hW => ⟨rfl, by rw [hU]; exact hR, c6.warm hW⟩⟩ rfl hlen hl.1 hst (lv_room hcat) d hf)
/-- a call of a nest mate's private method: the link is among Kx -/
def LkN (y : MethodName) (bytes : ByteArray) (maxL : Nat) (ret : Option FieldType) (n : Nat) : Prop :=
  Cond.initialized y.cls ∈ wG ∧ Cond.code y bytes maxL ret ∈ wG ∧ (y.cls ≠ "java/lang/invoke/MethodHandle" ∧ y.cls ≠ "java/lang/invoke/VarHandle" ∧ (parseMethodDescriptor y.desc).map (fun d => d.parameters.length) = some n)
theorem v_callSN (C : Cx X own cc rm T0 B0 nL0) {y : MethodName} {bytes : ByteArray} {maxL : Nat} {ret : Option FieldType} {kd : Nat} {rm' : Room} {sp : Sp} (M : Mt T0 B0 y bytes maxL ret kd rm' sp) {ix n : Nat} {host : String} (hn : ∀ U, Kx T0 U → va_Nw (.methodLinkNest own ix y host) U) (lk : LkN y bytes maxL ret n) (lk2 : Cond.static y ∈ wG) (d : decode cc pc = .ok (.invokestatic ix, 3))
    (hroom : rm'.frames + 1 ≤ rm.frames ∧ 8 + (maxL + 11) + rm'.locals ≤ rm.locals) (av : List Value) (rest : List Value) (hlen : av.length = n) (hst : st = av.reverse ++ rest) (hcat : (rest.map fun v => v.category).sum ≤ 8) (hf : kc + rm'.cells ≤ rm.cells ∧ ks + rm'.slots ≤ rm.slots)
    (h : sp av z S I J R (fun i j r z' S' I' J' R' => V X (kc + rm'.cells) (ks + rm'.slots) z' S' I' J' R' (pc + 3) lv (rvv kd i j r ++ rest))) : V X kc ks z S I J R pc lv st := by
  obtain ⟨p, l, e, Rm, s, m, args, below, meth, c, nL, T, B, Q⟩ := X
  intro H locs ls hR hS hl
  obtain ⟨c1, c2, c3, c4, c5, c6, c7, c8, c9, c10, c11, c12⟩ := id C
  subst c9 c10 c11
  have cw := va_cnB (R := Rm) (s := s) (args := args) (own := own) (index := ix) (host := host) n c5 (good_ws lk.2.1) rfl (rm := rm') rfl rfl (hn s c6) (c5 _ lk.1) lk.2.2 hroom
  exact v_run hS hl (va_runSN ⟨c1, c2, c3, c4, c5⟩ (M l _ z S I J R _ h) ⟨cw, c5 _ lk2, trivial⟩ ⟨blindK, fun U hU hW => ⟨rfl, by rw [hU]; exact hR, c6.warm hW⟩⟩ rfl hlen hl.1 hst (lv_room hcat) d hf)
theorem v_callIN (C : Cx X own cc rm T0 B0 nL0) {y : MethodName} {bytes : ByteArray} {maxL : Nat} {rm' : Room} {sp : Sp} (M : Mt T0 B0 y bytes maxL none 0 rm' sp) {ix n : Nat} {host : String} (hn : ∀ U, Kx T0 U → va_Nw (.methodLinkNest own ix y host) U) (lk : LkN y bytes maxL none n) (hy : y.name = "<init>") (lk2 : Cond.instanceMethod y ∈ wG) (d : decode cc pc = .ok (.invokespecial ix, 3))
    (hroom : rm'.frames + 1 ≤ rm.frames ∧ 8 + (maxL + 11) + rm'.locals ≤ rm.locals) {b : Nat} (av : List Value) (rest : List Value) (hlen : av.length = n) (hst : st = av.reverse ++ .ref b :: rest) (hcat : (rest.map fun v => v.category).sum ≤ 8) (hf : kc + rm'.cells ≤ rm.cells ∧ ks + rm'.slots ≤ rm.slots)
    (h : sp (.ref b :: av) z S I J R (fun _ _ _ z' S' I' J' R' => V X (kc + rm'.cells) (ks + rm'.slots) z' S' I' J' R' (pc + 3) lv rest)) : V X kc ks z S I J R pc lv st := by
  obtain ⟨p, l, e, Rm, s, m, args, below, meth, c, nL, T, B, Q⟩ := X
  intro H locs ls hR hS hl
  obtain ⟨c1, c2, c3, c4, c5, c6, c7, c8, c9, c10, c11, c12⟩ := id C
  subst c9 c10 c11
  have cw := va_cnB (R := Rm) (s := s) (args := args) (own := own) (index := ix) (host := host) n c5 (good_ws lk.2.1) rfl (rm := rm') rfl rfl (hn s c6) (c5 _ lk.1) lk.2.2 hroom
  exact v_run (kd := 0) hS hl (va_runIN ⟨c1, c2, c3, c4, c5⟩ (M l _ z S I J R _ h) ⟨cw, hy, c5 _ lk2⟩ ⟨blindK, fun U hU hW => ⟨rfl, by rw [hU]; exact hR, c6.warm hW⟩⟩ rfl hlen hl.1 hst (lv_room hcat) d hf)
theorem v_mmax (C : Cx X own cc rm T0 B0 nL0) {ix : Nat} {x y : Int32} (hlk : Cond.methodLink own ix Lib.Math.max.name ∈ wG) (hst : Cond.static Lib.Math.max.name ∈ wG) (hco : Cond.code Lib.Math.max.name Lib.Math.max.code 2 (some .int) ∈ wG) (hf : 1 ≤ rm.frames) (hlo : (st.map fun v => v.category).sum + 13 ≤ rm.locals) (hc : kc ≤ rm.cells) (hs : ks ≤ rm.slots) (d : decode cc pc = .ok (.invokestatic ix, 3)) (k : V X kc ks z S I J R (pc + 3) lv (.int (if x < y then y else x) :: st)) : V X kc ks z S I J R pc lv (.int y :: .int x :: st) := by
  obtain ⟨p, l, e, Rm, s, m, args, below, meth, c, nL, T, B, Q⟩ := X
  intro H locs ls hR hS hl
  obtain ⟨c1, c2, c3, c4, c5, c6, c7, c8, c9, c10, c11, c12⟩ := id C
  subst c9
  exact va_mmax c1 c2 (by rw [c3, hl.1]) c4 (c5 _ hlk) (c5 _ hst) (c5 (.initialized "java/lang/Math") wt_7) (c5 _ hco) hf hlo hc hs d (k H locs ls hR hS hl)
theorem v_mmin (C : Cx X own cc rm T0 B0 nL0) {ix : Nat} {x y : Int32} (hlk : Cond.methodLink own ix Lib.Math.min.name ∈ wG) (hst : Cond.static Lib.Math.min.name ∈ wG) (hco : Cond.code Lib.Math.min.name Lib.Math.min.code 2 (some .int) ∈ wG) (hf : 1 ≤ rm.frames) (hlo : (st.map fun v => v.category).sum + 13 ≤ rm.locals) (hc : kc ≤ rm.cells) (hs : ks ≤ rm.slots) (d : decode cc pc = .ok (.invokestatic ix, 3)) (k : V X kc ks z S I J R (pc + 3) lv (.int (if y < x then y else x) :: st)) : V X kc ks z S I J R pc lv (.int y :: .int x :: st) := by
  obtain ⟨p, l, e, Rm, s, m, args, below, meth, c, nL, T, B, Q⟩ := X
  intro H locs ls hR hS hl
  obtain ⟨c1, c2, c3, c4, c5, c6, c7, c8, c9, c10, c11, c12⟩ := id C
  subst c9
  exact va_mmin c1 c2 (by rw [c3, hl.1]) c4 (c5 _ hlk) (c5 _ hst) (c5 (.initialized "java/lang/Math") wt_7) (c5 _ hco) hf hlo hc hs d (k H locs ls hR hS hl)
theorem v_mabsL (C : Cx X own cc rm T0 B0 nL0) {ix : Nat} {x : Int64} (hlk : Cond.methodLink own ix Lib.MathLoose.abs_long.x ∈ wG) (hst : Cond.static Lib.MathLoose.abs_long.x ∈ wG) (hco : Cond.code Lib.MathLoose.abs_long.x Lib.MathLoose.abs_long.code 2 (some .long) ∈ wG) (hf : 1 ≤ rm.frames) (hlo : (st.map fun v => v.category).sum + 13 ≤ rm.locals) (hc : kc ≤ rm.cells) (hs : ks ≤ rm.slots) (d : decode cc pc = .ok (.invokestatic ix, 3)) (k : V X kc ks z S I J R (pc + 3) lv (.long (if 0 < x then x else -x) :: st)) : V X kc ks z S I J R pc lv (.long x :: st) := by
  obtain ⟨p, l, e, Rm, s, m, args, below, meth, c, nL, T, B, Q⟩ := X
  intro H locs ls hR hS hl
  obtain ⟨c1, c2, c3, c4, c5, c6, c7, c8, c9, c10, c11, c12⟩ := id C
  subst c9
  exact va_mabs_long c1 c2 (by rw [c3, hl.1]) c4 (c5 _ hlk) (c5 _ hst) (c5 (.initialized "java/lang/Math") wt_7) (c5 _ hco) hf hlo hc hs d (k H locs ls hR hS hl)
/-- n ints of the row a from place sp on, laid into the row b from place dp on -/
def mcp (I : MI) (a sp b dp n : Nat) : MI := fun q k => if q = b ∧ dp ≤ k ∧ k < dp + n then I a (sp + (k - dp)) else I q k
theorem v_copyi (C : Cx X own cc rm T0 B0 nL0) {ix a0 a n0 n1 sp dp n : Nat} (hlk : Cond.methodLink own ix arraycopyName ∈ wG) (hnat : Cond.native arraycopyName ∈ wG) (hstt : Cond.static arraycopyName ∈ wG) (hs0 : S a0 = (7, n0)) (hs1 : S a = (7, n1)) (h4 : sp + n ≤ n0) (h5 : dp + n ≤ n1) (h6 : n0 < 100000) (h7 : n1 < 100000) (hf : 1 ≤ rm.frames) (hlo : (st.map fun v => v.category).sum + (nativeFrameWords "java/lang/System" "arraycopy" 5 + 11) ≤ rm.locals) (d : decode cc pc = .ok (.invokestatic ix, 3)) (kk : V X kc ks z S (mcp I a0 sp a dp n) J R (pc + 3) lv st) : V X kc ks z S I J R pc lv (.int (nI n) :: .int (nI dp) :: .ref a :: .int (nI sp) :: .ref a0 :: st) := by
  obtain ⟨p, l, e, Rm, s, m, args, below, meth, c, nL, T, B, Q⟩ := X
  intro H locs ls hR hS hl
  obtain ⟨c1, c2, c3, c4, c5, c6, c7, c8, c9, c10, c11, c12⟩ := id C
  subst c9
  have hA0 : H[a0]? = some (vp_cell T.2.1 (n0, .inl (I a0))) := hR.at (sne hs0) (cT7 (T := T) (I := I) (J := J) (R := R) hs0)
  have hA1 : H[a]? = some (vp_cell T.2.1 (n1, .inl (I a))) := hR.at (sne hs1) (cT7 (T := T) (I := I) (J := J) (R := R) hs1)
  have e_n : (nI n).toNatClampNeg = n := nI_clamp (by omega)
  have e_sp : (nI sp).toNatClampNeg = sp := nI_clamp (by omega)
  have e_dp : (nI dp).toNatClampNeg = dp := nI_clamp (by omega)
  have t_n : (nI n).toInt = (n : Int) := nI_toInt (by omega)
  have t_sp : (nI sp).toInt = (sp : Int) := nI_toInt (by omega)
  have t_dp : (nI dp).toInt = (dp : Int) := nI_toInt (by omega)
  intro T1 hT X1
  obtain ⟨-, k0, hk0, cm0, hkk0⟩ := (c6.1.2 0 _ rfl).1 n0 (fun j => .int (I a0 j))
  obtain ⟨-, k1, hk1, cm1, hkk1⟩ := (c6.1.2 0 _ rfl).1 n1 (fun j => .int (I a j))
  obtain ⟨vm', X', step⟩ := X1.arraycopy c1 c4 (c5 _ hlk) (c5 _ hnat) (c5 _ hstt) (c5 (.initialized "java/lang/System") wt_8) (src := a0) (dst := a) (cs := vp_cell T.2.1 (n0, .inl (I a0))) (cd := vp_cell T.2.1 (n1, .inl (I a))) (srcPos := nI sp) (destPos := nI dp) (n := nI n) (by rw [hT]; exact hA0) (by rw [hT]; exact hA1)
    (fun _ h => by cases h) (fun _ h => by cases h) (fun h => by cases h) (fun h => by cases h) hk0 hk1 hkk0 hkk1 (by simp) (nI_pos (by omega)) (nI_pos (by omega)) (nI_pos (by omega))
    (by rw [t_sp, t_n]; show ¬ _ > ((arrV _ n0 (fun j => .int (I a0 j))).slots.size : Int); rw [arrV_size]; omega)
    (by rw [t_dp, t_n]; show ¬ _ > ((arrV _ n1 (fun j => .int (I a j))).slots.size : Int); rw [arrV_size]; omega)
    (fun vm₁ _ i hi => by
      rw [e_n] at hi
      have e : (vp_cell T.2.1 (n0, .inl (I a0))).slots.getD ((nI sp).toNatClampNeg + i) .null = .int (I a0 (sp + i)) := by
        show (arrV _ n0 (fun j => .int (I a0 j))).slots.getD _ _ = _
        rw [e_sp, Array.getD_eq_getD_getElem?, arrV_read _ _ (by omega)]
        rfl
      refine ⟨?_, ?_⟩
      · rw [e]
        rfl
      · rw [e]
        exact trivial)
    (g := F0 m pc ls (.int (nI n) :: .int (nI dp) :: .ref a :: .int (nI sp) :: .ref a0 :: st)) rfl (by rw [c3, hl.1]) (rest := st) rfl (by rw [c2]; exact d) hf (by show 2 * 0 + _ + _ ≤ _; omega)
  have e1 : copied (vp_cell T.2.1 (n0, .inl (I a0))) (vp_cell T.2.1 (n1, .inl (I a))) (nI sp) (nI dp) (nI n) = vp_cell T.2.1 (n1, .inl (va_cpy (I a0) (I a) (nI sp).toNatClampNeg (nI dp).toNatClampNeg (nI n).toNatClampNeg)) := va_copied (fun z => .int z) T.2.1 T.2.1 (I a0) (I a) (by rw [e_sp, e_n]; exact h4)
  rw [e1, e_sp, e_dp, e_n] at X' step
  have hla : a < H.size := (Array.getElem?_eq_some_iff.mp hA1).1
  have hheap : ((T1.setVm vm').setCell a (vp_cell T.2.1 (n1, .inl (va_cpy (I a0) (I a) sp dp n)))).heap = H.setIfInBounds a (vp_cell T.2.1 (n1, .inl (va_cpy (I a0) (I a) sp dp n))) := by rw [← hT]; rfl
  have oq : ∀ q : Nat, q ≠ a → (H.setIfInBounds a (vp_cell T.2.1 (n1, .inl (va_cpy (I a0) (I a) sp dp n))))[q]? = H[q]? := fun q hq => by simp [Array.getElem?_setIfInBounds, Ne.symm hq]
  have hrow : mcp I a0 sp a dp n a = va_cpy (I a0) (I a) sp dp n := by
    funext q
    simp [mcp, va_cpy]
  obtain ⟨t, a1, b1⟩ := kk _ _ ls (hR.put (a := a) (H1 := H.setIfInBounds a (vp_cell T.2.1 (n1, .inl (va_cpy (I a0) (I a) sp dp n)))) (by simp) oq (by
      rw [cT7 hs1, hrow]
      show (H.setIfInBounds a _)[a]? = some _
      simp [Array.getElem?_setIfInBounds, hla]) (fun b hb => cT_congr T rfl (by funext q; simp [mcp, hb]) rfl rfl)) ⟨by simp; exact hS.1, fun q g1 g2 => by
      rw [oq q (fun e => g2 (by rw [e]; exact (hR.2.2 a (sne hs1)).1))]
      exact hS.2.1 q g1 g2, fun q hq => by
      rcases List.mem_append.mp hq with h | h
      · exact hS.2.2 q h
      · obtain ⟨z, -, hz⟩ := List.mem_map.mp h
        rw [← hz]
        exact (hR.2.2 a (sne hs1)).1⟩ hl _ hheap X'
  exact ⟨t, step t a1, b1⟩
end VC
end
section
section VN
variable {X : CX} {own : String} {cc : ByteArray} {rm : Room} {T0 : TC} {B0 nL0 : Nat} {kc ks z : Nat} {S : MS} {I : MI} {J : MJ} {R : MR} {pc : Nat} {lv : List (Option Value)} {st : List Value}
theorem nz_0 : narrow .boolean (.int (nI 0)) = .int (nI 0) := by decide +kernel
theorem nz_1 : narrow .boolean (.int (nI 1)) = .int (nI 1) := by decide +kernel
theorem ft_0 : fits .boolean (.int (nI 0)) = true := by decide +kernel
theorem ft_1 : fits .boolean (.int (nI 1)) = true := by decide +kernel
theorem v_ialdN (C : Cx X own cc rm T0 B0 nL0) {a n j : Nat} (hs : S a = (7, n)) (hj : j < n) (hb : j < 2147483648) (d : decode cc pc = .ok (.iaload, 1)) (k : V X kc ks z S I J R (pc + 1) lv (.int (I a j) :: st)) : V X kc ks z S I J R pc lv (.int (nI j) :: .ref a :: st) := v_iald C hs (by rw [vp_in_iff, nI_toInt hb]; omega) d (by rw [nI_clamp hb]; exact k)
theorem v_laldN (C : Cx X own cc rm T0 B0 nL0) {a n j : Nat} (hs : S a = (8, n)) (hj : j < n) (hb : j < 2147483648) (d : decode cc pc = .ok (.laload, 1)) (k : V X kc ks z S I J R (pc + 1) lv (.long (J a j) :: st)) : V X kc ks z S I J R pc lv (.int (nI j) :: .ref a :: st) := v_lald C hs (by rw [vp_in_iff, nI_toInt hb]; omega) d (by rw [nI_clamp hb]; exact k)
theorem v_zaldN (C : Cx X own cc rm T0 B0 nL0) {a n j : Nat} (hs : S a = (9, n)) (hj : j < n) (hb : j < 2147483648) (d : decode cc pc = .ok (.baload, 1)) (k : V X kc ks z S I J R (pc + 1) lv (.int (I a j) :: st)) : V X kc ks z S I J R pc lv (.int (nI j) :: .ref a :: st) := v_zald C hs (by rw [vp_in_iff, nI_toInt hb]; omega) d (by rw [nI_clamp hb]; exact k)
theorem v_aaldN (C : Cx X own cc rm T0 B0 nL0) {a n j : Nat} (hs : S a = (10, n)) (hj : j < n) (hb : j < 2147483648) (d : decode cc pc = .ok (.aaload, 1)) (k : V X kc ks z S I J R (pc + 1) lv (va_rf (R a j) :: st)) : V X kc ks z S I J R pc lv (.int (nI j) :: .ref a :: st) := v_aald C hs (by rw [vp_in_iff, nI_toInt hb]; omega) d (by rw [nI_clamp hb]; exact k)
theorem v_iastN (C : Cx X own cc rm T0 B0 nL0) {a n j : Nat} {x : Int32} (hs : S a = (7, n)) (hj : j < n) (hb : j < 2147483648) (d : decode cc pc = .ok (.iastore, 1)) (k : V X kc ks z S (mu I a j x) J R (pc + 1) lv st) : V X kc ks z S I J R pc lv (.int x :: .int (nI j) :: .ref a :: st) := v_iast C hs (by rw [vp_in_iff, nI_toInt hb]; omega) d (by rw [nI_clamp hb]; exact k)
theorem v_lastN (C : Cx X own cc rm T0 B0 nL0) {a n j : Nat} {x : Int64} (hs : S a = (8, n)) (hj : j < n) (hb : j < 2147483648) (d : decode cc pc = .ok (.lastore, 1)) (k : V X kc ks z S I (mu J a j x) R (pc + 1) lv st) : V X kc ks z S I J R pc lv (.long x :: .int (nI j) :: .ref a :: st) := v_last C hs (by rw [vp_in_iff, nI_toInt hb]; omega) d (by rw [nI_clamp hb]; exact k)
theorem v_zastN (C : Cx X own cc rm T0 B0 nL0) {a n j : Nat} {x : Int32} (hs : S a = (9, n)) (hx : narrow .boolean (.int x) = .int x) (hj : j < n) (hb : j < 2147483648) (d : decode cc pc = .ok (.bastore, 1)) (k : V X kc ks z S (mu I a j x) J R (pc + 1) lv st) : V X kc ks z S I J R pc lv (.int x :: .int (nI j) :: .ref a :: st) := v_zast C hs (by rw [vp_in_iff, nI_toInt hb]; omega) hx d (by rw [nI_clamp hb]; exact k)
theorem v_aastN (C : Cx X own cc rm T0 B0 nL0) {a n j v : Nat} (hs : S a = (10, n)) (hv : S v = (3, 0)) (hj : j < n) (hb : j < 2147483648) (d : decode cc pc = .ok (.aastore, 1)) (k : V X kc ks z S I J (mu R a j (some v)) (pc + 1) lv st) : V X kc ks z S I J R pc lv (.ref v :: .int (nI j) :: .ref a :: st) := v_aast C hs hv (by rw [vp_in_iff, nI_toInt hb]; omega) d (by rw [nI_clamp hb]; exact k)
theorem cTo_0 {T : TC} {a : Nat} (h : S a = (1, 0)) : cT T S I J R a = .inr (0, [va_rf (R a 0), .long (J a 1), .int (I a 2), va_rf (R a 3), va_rf (R a 4), .int (I a 5), .int (I a 6)]) := by simp only [cT, h]
theorem cTo_1 {T : TC} {a : Nat} (h : S a = (2, 0)) : cT T S I J R a = .inr (1, [va_rf (R a 0), va_rf (R a 1), .int (I a 2), .int (I a 3), .int (I a 4)]) := by simp only [cT, h]
theorem cTo_2 {T : TC} {a : Nat} (h : S a = (3, 0)) : cT T S I J R a = .inr (2, [.int (I a 0), .int (I a 1), .int (I a 2), .int (I a 3), .int (I a 4), va_rf (R a 5), va_rf (R a 6), va_rf (R a 7), va_rf (R a 8)]) := by simp only [cT, h]
theorem cTo_3 {T : TC} {a : Nat} (h : S a = (4, 0)) : cT T S I J R a = .inr (3, [va_rf (R a 0), va_rf (R a 1), va_rf (R a 2)]) := by simp only [cT, h]
theorem cTo_4 {T : TC} {a : Nat} (h : S a = (5, 0)) : cT T S I J R a = .inr (4, [va_rf (R a 0), va_rf (R a 1), va_rf (R a 2), va_rf (R a 3), va_rf (R a 4), va_rf (R a 5), .int (I a 6), .int (I a 7)]) := by simp only [cT, h]
theorem cTo_5 {T : TC} {a : Nat} (h : S a = (6, 0)) : cT T S I J R a = .inr (5, [.int (I a 0), va_rf (R a 1), va_rf (R a 2), va_rf (R a 3), va_rf (R a 4), va_rf (R a 5), va_rf (R a 6), va_rf (R a 7), va_rf (R a 8), va_rf (R a 9), va_rf (R a 10), va_rf (R a 11), va_rf (R a 12), .int (I a 13), va_rf (R a 14), va_rf (R a 15), va_rf (R a 16), va_rf (R a 17), va_rf (R a 18), va_rf (R a 19), va_rf (R a 20)]) := by simp only [cT, h]
theorem g_0_0 (C : Cx X own cc rm T0 B0 nL0) {a ix : Nat} (hs : S a = (1, 0)) {b : Nat} (hr : R a 0 = some b) (hlk : Cond.fieldLink own ix "EvenScatter$Corners" "bestHighs" "[I" ∈ wG) (d : decode cc pc = .ok (.getfield ix, 3)) (k : V X kc ks z S I J R (pc + 3) lv (.ref b :: st)) : V X kc ks z S I J R pc lv (.ref a :: st) := v_getG C (ci := 0) (k := 0) (v := .ref b) rfl inX0 (sne hs) (cTo_0 hs) (by decide) (by show some (va_rf (R a 0)) = some (.ref b); rw [hr]; rfl) hlk d k
theorem p_0_0 (C : Cx X own cc rm T0 B0 nL0) (hI : IsInit X) {a ix : Nat} (hs : S a = (1, 0)) {b : Nat} (hlk : Cond.fieldLink own ix "EvenScatter$Corners" "bestHighs" "[I" ∈ wG) (d : decode cc pc = .ok (.putfield ix, 3)) (hw : own = "EvenScatter$Corners" := by rfl) (k : V X kc ks z S I J (mu R a 0 (some b)) (pc + 3) lv st) : V X kc ks z S I J R pc lv (.ref b :: .ref a :: st) := v_putF C hI (ci := 0) (k := 0) (v := .ref b) rfl inX0 tyX0_ok nmX0 (sne hs) (cTo_0 hs) (by decide) (Nat.le_of_ble_eq_true rfl) rfl hw.symm (tyX0_ok 0 (by decide)) rfl rfl hlk d (by rw [cTo_0 hs]; simp [mu, va_rf]) (fun b hb => cT_congr T0 rfl rfl rfl (mu_ne R _ hb)) k
theorem g_0_1 (C : Cx X own cc rm T0 B0 nL0) {a ix : Nat} (hs : S a = (1, 0)) (hlk : Cond.fieldLink own ix "EvenScatter$Corners" "best" "J" ∈ wG) (d : decode cc pc = .ok (.getfield ix, 3)) (k : V X kc ks z S I J R (pc + 3) lv (.long (J a 1) :: st)) : V X kc ks z S I J R pc lv (.ref a :: st) := v_getG C (ci := 0) (k := 1) rfl inX0 (sne hs) (cTo_0 hs) (by decide) rfl hlk d k
theorem p_0_1 (C : Cx X own cc rm T0 B0 nL0) {a ix : Nat} (hs : S a = (1, 0)) {x : Int64} (hlk : Cond.fieldLink own ix "EvenScatter$Corners" "best" "J" ∈ wG) (d : decode cc pc = .ok (.putfield ix, 3)) (k : V X kc ks z S I (mu J a 1 x) R (pc + 3) lv st) : V X kc ks z S I J R pc lv (.long x :: .ref a :: st) := v_putG C (ci := 0) (k := 1) (v := .long x) rfl inX0 tyX0_ok nmX0 (sne hs) (cTo_0 hs) (by decide) (Nat.le_of_ble_eq_true rfl) rfl (tyX0_ok 1 (by decide)) rfl rfl hlk d (by rw [cTo_0 hs]; simp [mu]) (fun b hb => cT_congr T0 rfl rfl (mu_ne J x hb) rfl) k
theorem g_0_2 (C : Cx X own cc rm T0 B0 nL0) {a ix : Nat} (hs : S a = (1, 0)) (hlk : Cond.fieldLink own ix "EvenScatter$Corners" "bestIsClosed" "Z" ∈ wG) (d : decode cc pc = .ok (.getfield ix, 3)) (k : V X kc ks z S I J R (pc + 3) lv (.int (I a 2) :: st)) : V X kc ks z S I J R pc lv (.ref a :: st) := v_getG C (ci := 0) (k := 2) rfl inX0 (sne hs) (cTo_0 hs) (by decide) rfl hlk d k
theorem p_0_2 (C : Cx X own cc rm T0 B0 nL0) {a ix : Nat} (hs : S a = (1, 0)) {x : Int32} (hlk : Cond.fieldLink own ix "EvenScatter$Corners" "bestIsClosed" "Z" ∈ wG) (d : decode cc pc = .ok (.putfield ix, 3)) (hz : narrow .boolean (.int x) = .int x ∧ fits .boolean (.int x) = true) (k : V X kc ks z S (mu I a 2 x) J R (pc + 3) lv st) : V X kc ks z S I J R pc lv (.int x :: .ref a :: st) := v_putG C (ci := 0) (k := 2) (v := .int x) rfl inX0 tyX0_ok nmX0 (sne hs) (cTo_0 hs) (by decide) (Nat.le_of_ble_eq_true rfl) rfl (tyX0_ok 2 (by decide)) hz.1 hz.2 hlk d (by rw [cTo_0 hs]; simp [mu]) (fun b hb => cT_congr T0 rfl (mu_ne I x hb) rfl rfl) k
theorem g_0_3 (C : Cx X own cc rm T0 B0 nL0) {a ix : Nat} (hs : S a = (1, 0)) {b : Nat} (hr : R a 3 = some b) (hlk : Cond.fieldLink own ix "EvenScatter$Corners" "highs" "[I" ∈ wG) (d : decode cc pc = .ok (.getfield ix, 3)) (k : V X kc ks z S I J R (pc + 3) lv (.ref b :: st)) : V X kc ks z S I J R pc lv (.ref a :: st) := v_getG C (ci := 0) (k := 3) (v := .ref b) rfl inX0 (sne hs) (cTo_0 hs) (by decide) (by show some (va_rf (R a 3)) = some (.ref b); rw [hr]; rfl) hlk d k
theorem p_0_3 (C : Cx X own cc rm T0 B0 nL0) (hI : IsInit X) {a ix : Nat} (hs : S a = (1, 0)) {b : Nat} (hlk : Cond.fieldLink own ix "EvenScatter$Corners" "highs" "[I" ∈ wG) (d : decode cc pc = .ok (.putfield ix, 3)) (hw : own = "EvenScatter$Corners" := by rfl) (k : V X kc ks z S I J (mu R a 3 (some b)) (pc + 3) lv st) : V X kc ks z S I J R pc lv (.ref b :: .ref a :: st) := v_putF C hI (ci := 0) (k := 3) (v := .ref b) rfl inX0 tyX0_ok nmX0 (sne hs) (cTo_0 hs) (by decide) (Nat.le_of_ble_eq_true rfl) rfl hw.symm (tyX0_ok 3 (by decide)) rfl rfl hlk d (by rw [cTo_0 hs]; simp [mu, va_rf]) (fun b hb => cT_congr T0 rfl rfl rfl (mu_ne R _ hb)) k
theorem g_0_4 (C : Cx X own cc rm T0 B0 nL0) {a ix : Nat} (hs : S a = (1, 0)) {b : Nat} (hr : R a 4 = some b) (hlk : Cond.fieldLink own ix "EvenScatter$Corners" "uses" "[I" ∈ wG) (d : decode cc pc = .ok (.getfield ix, 3)) (k : V X kc ks z S I J R (pc + 3) lv (.ref b :: st)) : V X kc ks z S I J R pc lv (.ref a :: st) := v_getG C (ci := 0) (k := 4) (v := .ref b) rfl inX0 (sne hs) (cTo_0 hs) (by decide) (by show some (va_rf (R a 4)) = some (.ref b); rw [hr]; rfl) hlk d k
theorem p_0_4 (C : Cx X own cc rm T0 B0 nL0) (hI : IsInit X) {a ix : Nat} (hs : S a = (1, 0)) {b : Nat} (hlk : Cond.fieldLink own ix "EvenScatter$Corners" "uses" "[I" ∈ wG) (d : decode cc pc = .ok (.putfield ix, 3)) (hw : own = "EvenScatter$Corners" := by rfl) (k : V X kc ks z S I J (mu R a 4 (some b)) (pc + 3) lv st) : V X kc ks z S I J R pc lv (.ref b :: .ref a :: st) := v_putF C hI (ci := 0) (k := 4) (v := .ref b) rfl inX0 tyX0_ok nmX0 (sne hs) (cTo_0 hs) (by decide) (Nat.le_of_ble_eq_true rfl) rfl hw.symm (tyX0_ok 4 (by decide)) rfl rfl hlk d (by rw [cTo_0 hs]; simp [mu, va_rf]) (fun b hb => cT_congr T0 rfl rfl rfl (mu_ne R _ hb)) k
theorem g_0_5 (C : Cx X own cc rm T0 B0 nL0) {a ix : Nat} (hs : S a = (1, 0)) (hlk : Cond.fieldLink own ix "EvenScatter$Corners" "base" "I" ∈ wG) (d : decode cc pc = .ok (.getfield ix, 3)) (k : V X kc ks z S I J R (pc + 3) lv (.int (I a 5) :: st)) : V X kc ks z S I J R pc lv (.ref a :: st) := v_getG C (ci := 0) (k := 5) rfl inX0 (sne hs) (cTo_0 hs) (by decide) rfl hlk d k
theorem p_0_5 (C : Cx X own cc rm T0 B0 nL0) {a ix : Nat} (hs : S a = (1, 0)) {x : Int32} (hlk : Cond.fieldLink own ix "EvenScatter$Corners" "base" "I" ∈ wG) (d : decode cc pc = .ok (.putfield ix, 3)) (k : V X kc ks z S (mu I a 5 x) J R (pc + 3) lv st) : V X kc ks z S I J R pc lv (.int x :: .ref a :: st) := v_putG C (ci := 0) (k := 5) (v := .int x) rfl inX0 tyX0_ok nmX0 (sne hs) (cTo_0 hs) (by decide) (Nat.le_of_ble_eq_true rfl) rfl (tyX0_ok 5 (by decide)) rfl rfl hlk d (by rw [cTo_0 hs]; simp [mu]) (fun b hb => cT_congr T0 rfl (mu_ne I x hb) rfl rfl) k
theorem g_0_6 (C : Cx X own cc rm T0 B0 nL0) {a ix : Nat} (hs : S a = (1, 0)) (hlk : Cond.fieldLink own ix "EvenScatter$Corners" "number" "I" ∈ wG) (d : decode cc pc = .ok (.getfield ix, 3)) (k : V X kc ks z S I J R (pc + 3) lv (.int (I a 6) :: st)) : V X kc ks z S I J R pc lv (.ref a :: st) := v_getG C (ci := 0) (k := 6) rfl inX0 (sne hs) (cTo_0 hs) (by decide) rfl hlk d k
theorem p_0_6 (C : Cx X own cc rm T0 B0 nL0) {a ix : Nat} (hs : S a = (1, 0)) {x : Int32} (hlk : Cond.fieldLink own ix "EvenScatter$Corners" "number" "I" ∈ wG) (d : decode cc pc = .ok (.putfield ix, 3)) (k : V X kc ks z S (mu I a 6 x) J R (pc + 3) lv st) : V X kc ks z S I J R pc lv (.int x :: .ref a :: st) := v_putG C (ci := 0) (k := 6) (v := .int x) rfl inX0 tyX0_ok nmX0 (sne hs) (cTo_0 hs) (by decide) (Nat.le_of_ble_eq_true rfl) rfl (tyX0_ok 6 (by decide)) rfl rfl hlk d (by rw [cTo_0 hs]; simp [mu]) (fun b hb => cT_congr T0 rfl (mu_ne I x hb) rfl rfl) k
theorem n_0 (C : Cx X own cc rm T0 B0 nL0) {ix : Nat} (hlk : Cond.classLink own ix "EvenScatter$Corners" ∈ wG) (hc : kc + 1 ≤ rm.cells) (hs : ks + 7 ≤ rm.slots) (d : decode cc pc = .ok (.new ix, 3)) (k : V X (kc + 1) (ks + 7) (z + 1) (su S z 1 0) (mz I z 0) (mz J z 0) (mz R z none) (pc + 3) lv (.ref z :: st)) : V X kc ks z S I J R pc lv st := v_newG C (ci := 0) (N := 7) (fs := [.null, .long 0, .int 0, .null, .null, .int 0, .int 0]) rfl inX0 tyX0 tyX0_ok (fun j hj => by rcases (show j = 0 ∨ j = 1 ∨ j = 2 ∨ j = 3 ∨ j = 4 ∨ j = 5 ∨ j = 6 by omega) with rfl | rfl | rfl | rfl | rfl | rfl | rfl <;> rfl) hlk wt_64 wt_4 hc hs d (by rw [cTo_0 (su_at S z 1 0)]; simp [mz, va_rf]) k
theorem g_1_0 (C : Cx X own cc rm T0 B0 nL0) {a ix : Nat} (hs : S a = (2, 0)) {b : Nat} (hr : R a 0 = some b) (hlk : Cond.fieldLink own ix "EvenScatter$Ranks" "chosen" "[I" ∈ wG) (d : decode cc pc = .ok (.getfield ix, 3)) (k : V X kc ks z S I J R (pc + 3) lv (.ref b :: st)) : V X kc ks z S I J R pc lv (.ref a :: st) := v_getG C (ci := 1) (k := 0) (v := .ref b) rfl inX1 (sne hs) (cTo_1 hs) (by decide) (by show some (va_rf (R a 0)) = some (.ref b); rw [hr]; rfl) hlk d k
theorem p_1_0 (C : Cx X own cc rm T0 B0 nL0) (hI : IsInit X) {a ix : Nat} (hs : S a = (2, 0)) {b : Nat} (hlk : Cond.fieldLink own ix "EvenScatter$Ranks" "chosen" "[I" ∈ wG) (d : decode cc pc = .ok (.putfield ix, 3)) (hw : own = "EvenScatter$Ranks" := by rfl) (k : V X kc ks z S I J (mu R a 0 (some b)) (pc + 3) lv st) : V X kc ks z S I J R pc lv (.ref b :: .ref a :: st) := v_putF C hI (ci := 1) (k := 0) (v := .ref b) rfl inX1 tyX1_ok nmX1 (sne hs) (cTo_1 hs) (by decide) (Nat.le_of_ble_eq_true rfl) rfl hw.symm (tyX1_ok 0 (by decide)) rfl rfl hlk d (by rw [cTo_1 hs]; simp [mu, va_rf]) (fun b hb => cT_congr T0 rfl rfl rfl (mu_ne R _ hb)) k
theorem g_1_1 (C : Cx X own cc rm T0 B0 nL0) {a ix : Nat} (hs : S a = (2, 0)) {b : Nat} (hr : R a 1 = some b) (hlk : Cond.fieldLink own ix "EvenScatter$Ranks" "kept" "[I" ∈ wG) (d : decode cc pc = .ok (.getfield ix, 3)) (k : V X kc ks z S I J R (pc + 3) lv (.ref b :: st)) : V X kc ks z S I J R pc lv (.ref a :: st) := v_getG C (ci := 1) (k := 1) (v := .ref b) rfl inX1 (sne hs) (cTo_1 hs) (by decide) (by show some (va_rf (R a 1)) = some (.ref b); rw [hr]; rfl) hlk d k
theorem p_1_1 (C : Cx X own cc rm T0 B0 nL0) (hI : IsInit X) {a ix : Nat} (hs : S a = (2, 0)) {b : Nat} (hlk : Cond.fieldLink own ix "EvenScatter$Ranks" "kept" "[I" ∈ wG) (d : decode cc pc = .ok (.putfield ix, 3)) (hw : own = "EvenScatter$Ranks" := by rfl) (k : V X kc ks z S I J (mu R a 1 (some b)) (pc + 3) lv st) : V X kc ks z S I J R pc lv (.ref b :: .ref a :: st) := v_putF C hI (ci := 1) (k := 1) (v := .ref b) rfl inX1 tyX1_ok nmX1 (sne hs) (cTo_1 hs) (by decide) (Nat.le_of_ble_eq_true rfl) rfl hw.symm (tyX1_ok 1 (by decide)) rfl rfl hlk d (by rw [cTo_1 hs]; simp [mu, va_rf]) (fun b hb => cT_congr T0 rfl rfl rfl (mu_ne R _ hb)) k
theorem g_1_2 (C : Cx X own cc rm T0 B0 nL0) {a ix : Nat} (hs : S a = (2, 0)) (hlk : Cond.fieldLink own ix "EvenScatter$Ranks" "choices" "I" ∈ wG) (d : decode cc pc = .ok (.getfield ix, 3)) (k : V X kc ks z S I J R (pc + 3) lv (.int (I a 2) :: st)) : V X kc ks z S I J R pc lv (.ref a :: st) := v_getG C (ci := 1) (k := 2) rfl inX1 (sne hs) (cTo_1 hs) (by decide) rfl hlk d k
theorem p_1_2 (C : Cx X own cc rm T0 B0 nL0) {a ix : Nat} (hs : S a = (2, 0)) {x : Int32} (hlk : Cond.fieldLink own ix "EvenScatter$Ranks" "choices" "I" ∈ wG) (d : decode cc pc = .ok (.putfield ix, 3)) (k : V X kc ks z S (mu I a 2 x) J R (pc + 3) lv st) : V X kc ks z S I J R pc lv (.int x :: .ref a :: st) := v_putG C (ci := 1) (k := 2) (v := .int x) rfl inX1 tyX1_ok nmX1 (sne hs) (cTo_1 hs) (by decide) (Nat.le_of_ble_eq_true rfl) rfl (tyX1_ok 2 (by decide)) rfl rfl hlk d (by rw [cTo_1 hs]; simp [mu]) (fun b hb => cT_congr T0 rfl (mu_ne I x hb) rfl rfl) k
theorem g_1_3 (C : Cx X own cc rm T0 B0 nL0) {a ix : Nat} (hs : S a = (2, 0)) (hlk : Cond.fieldLink own ix "EvenScatter$Ranks" "size" "I" ∈ wG) (d : decode cc pc = .ok (.getfield ix, 3)) (k : V X kc ks z S I J R (pc + 3) lv (.int (I a 3) :: st)) : V X kc ks z S I J R pc lv (.ref a :: st) := v_getG C (ci := 1) (k := 3) rfl inX1 (sne hs) (cTo_1 hs) (by decide) rfl hlk d k
theorem p_1_3 (C : Cx X own cc rm T0 B0 nL0) {a ix : Nat} (hs : S a = (2, 0)) {x : Int32} (hlk : Cond.fieldLink own ix "EvenScatter$Ranks" "size" "I" ∈ wG) (d : decode cc pc = .ok (.putfield ix, 3)) (k : V X kc ks z S (mu I a 3 x) J R (pc + 3) lv st) : V X kc ks z S I J R pc lv (.int x :: .ref a :: st) := v_putG C (ci := 1) (k := 3) (v := .int x) rfl inX1 tyX1_ok nmX1 (sne hs) (cTo_1 hs) (by decide) (Nat.le_of_ble_eq_true rfl) rfl (tyX1_ok 3 (by decide)) rfl rfl hlk d (by rw [cTo_1 hs]; simp [mu]) (fun b hb => cT_congr T0 rfl (mu_ne I x hb) rfl rfl) k
theorem g_1_4 (C : Cx X own cc rm T0 B0 nL0) {a ix : Nat} (hs : S a = (2, 0)) (hlk : Cond.fieldLink own ix "EvenScatter$Ranks" "leastDependent" "I" ∈ wG) (d : decode cc pc = .ok (.getfield ix, 3)) (k : V X kc ks z S I J R (pc + 3) lv (.int (I a 4) :: st)) : V X kc ks z S I J R pc lv (.ref a :: st) := v_getG C (ci := 1) (k := 4) rfl inX1 (sne hs) (cTo_1 hs) (by decide) rfl hlk d k
theorem p_1_4 (C : Cx X own cc rm T0 B0 nL0) {a ix : Nat} (hs : S a = (2, 0)) {x : Int32} (hlk : Cond.fieldLink own ix "EvenScatter$Ranks" "leastDependent" "I" ∈ wG) (d : decode cc pc = .ok (.putfield ix, 3)) (k : V X kc ks z S (mu I a 4 x) J R (pc + 3) lv st) : V X kc ks z S I J R pc lv (.int x :: .ref a :: st) := v_putG C (ci := 1) (k := 4) (v := .int x) rfl inX1 tyX1_ok nmX1 (sne hs) (cTo_1 hs) (by decide) (Nat.le_of_ble_eq_true rfl) rfl (tyX1_ok 4 (by decide)) rfl rfl hlk d (by rw [cTo_1 hs]; simp [mu]) (fun b hb => cT_congr T0 rfl (mu_ne I x hb) rfl rfl) k
theorem n_1 (C : Cx X own cc rm T0 B0 nL0) {ix : Nat} (hlk : Cond.classLink own ix "EvenScatter$Ranks" ∈ wG) (hc : kc + 1 ≤ rm.cells) (hs : ks + 5 ≤ rm.slots) (d : decode cc pc = .ok (.new ix, 3)) (k : V X (kc + 1) (ks + 5) (z + 1) (su S z 2 0) (mz I z 0) (mz J z 0) (mz R z none) (pc + 3) lv (.ref z :: st)) : V X kc ks z S I J R pc lv st := v_newG C (ci := 1) (N := 5) (fs := [.null, .null, .int 0, .int 0, .int 0]) rfl inX1 tyX1 tyX1_ok (fun j hj => by rcases (show j = 0 ∨ j = 1 ∨ j = 2 ∨ j = 3 ∨ j = 4 by omega) with rfl | rfl | rfl | rfl | rfl <;> rfl) hlk wt_42 wt_3 hc hs d (by rw [cTo_1 (su_at S z 2 0)]; simp [mz, va_rf]) k
theorem g_2_0 (C : Cx X own cc rm T0 B0 nL0) {a ix : Nat} (hs : S a = (3, 0)) (hlk : Cond.fieldLink own ix "EvenScatter$Scatter" "kind" "I" ∈ wG) (d : decode cc pc = .ok (.getfield ix, 3)) (k : V X kc ks z S I J R (pc + 3) lv (.int (I a 0) :: st)) : V X kc ks z S I J R pc lv (.ref a :: st) := v_getG C (ci := 2) (k := 0) rfl inX2 (sne hs) (cTo_2 hs) (by decide) rfl hlk d k
theorem p_2_0 (C : Cx X own cc rm T0 B0 nL0) (hI : IsInit X) {a ix : Nat} (hs : S a = (3, 0)) {x : Int32} (hlk : Cond.fieldLink own ix "EvenScatter$Scatter" "kind" "I" ∈ wG) (d : decode cc pc = .ok (.putfield ix, 3)) (hw : own = "EvenScatter$Scatter" := by rfl) (k : V X kc ks z S (mu I a 0 x) J R (pc + 3) lv st) : V X kc ks z S I J R pc lv (.int x :: .ref a :: st) := v_putF C hI (ci := 2) (k := 0) (v := .int x) rfl inX2 tyX2_ok nmX2 (sne hs) (cTo_2 hs) (by decide) (Nat.le_of_ble_eq_true rfl) rfl hw.symm (tyX2_ok 0 (by decide)) rfl rfl hlk d (by rw [cTo_2 hs]; simp [mu]) (fun b hb => cT_congr T0 rfl (mu_ne I x hb) rfl rfl) k
theorem g_2_1 (C : Cx X own cc rm T0 B0 nL0) {a ix : Nat} (hs : S a = (3, 0)) (hlk : Cond.fieldLink own ix "EvenScatter$Scatter" "power" "I" ∈ wG) (d : decode cc pc = .ok (.getfield ix, 3)) (k : V X kc ks z S I J R (pc + 3) lv (.int (I a 1) :: st)) : V X kc ks z S I J R pc lv (.ref a :: st) := v_getG C (ci := 2) (k := 1) rfl inX2 (sne hs) (cTo_2 hs) (by decide) rfl hlk d k
theorem p_2_1 (C : Cx X own cc rm T0 B0 nL0) (hI : IsInit X) {a ix : Nat} (hs : S a = (3, 0)) {x : Int32} (hlk : Cond.fieldLink own ix "EvenScatter$Scatter" "power" "I" ∈ wG) (d : decode cc pc = .ok (.putfield ix, 3)) (hw : own = "EvenScatter$Scatter" := by rfl) (k : V X kc ks z S (mu I a 1 x) J R (pc + 3) lv st) : V X kc ks z S I J R pc lv (.int x :: .ref a :: st) := v_putF C hI (ci := 2) (k := 1) (v := .int x) rfl inX2 tyX2_ok nmX2 (sne hs) (cTo_2 hs) (by decide) (Nat.le_of_ble_eq_true rfl) rfl hw.symm (tyX2_ok 1 (by decide)) rfl rfl hlk d (by rw [cTo_2 hs]; simp [mu]) (fun b hb => cT_congr T0 rfl (mu_ne I x hb) rfl rfl) k
theorem g_2_2 (C : Cx X own cc rm T0 B0 nL0) {a ix : Nat} (hs : S a = (3, 0)) (hlk : Cond.fieldLink own ix "EvenScatter$Scatter" "count" "I" ∈ wG) (d : decode cc pc = .ok (.getfield ix, 3)) (k : V X kc ks z S I J R (pc + 3) lv (.int (I a 2) :: st)) : V X kc ks z S I J R pc lv (.ref a :: st) := v_getG C (ci := 2) (k := 2) rfl inX2 (sne hs) (cTo_2 hs) (by decide) rfl hlk d k
theorem p_2_2 (C : Cx X own cc rm T0 B0 nL0) (hI : IsInit X) {a ix : Nat} (hs : S a = (3, 0)) {x : Int32} (hlk : Cond.fieldLink own ix "EvenScatter$Scatter" "count" "I" ∈ wG) (d : decode cc pc = .ok (.putfield ix, 3)) (hw : own = "EvenScatter$Scatter" := by rfl) (k : V X kc ks z S (mu I a 2 x) J R (pc + 3) lv st) : V X kc ks z S I J R pc lv (.int x :: .ref a :: st) := v_putF C hI (ci := 2) (k := 2) (v := .int x) rfl inX2 tyX2_ok nmX2 (sne hs) (cTo_2 hs) (by decide) (Nat.le_of_ble_eq_true rfl) rfl hw.symm (tyX2_ok 2 (by decide)) rfl rfl hlk d (by rw [cTo_2 hs]; simp [mu]) (fun b hb => cT_congr T0 rfl (mu_ne I x hb) rfl rfl) k
theorem g_2_3 (C : Cx X own cc rm T0 B0 nL0) {a ix : Nat} (hs : S a = (3, 0)) (hlk : Cond.fieldLink own ix "EvenScatter$Scatter" "directions" "I" ∈ wG) (d : decode cc pc = .ok (.getfield ix, 3)) (k : V X kc ks z S I J R (pc + 3) lv (.int (I a 3) :: st)) : V X kc ks z S I J R pc lv (.ref a :: st) := v_getG C (ci := 2) (k := 3) rfl inX2 (sne hs) (cTo_2 hs) (by decide) rfl hlk d k
theorem p_2_3 (C : Cx X own cc rm T0 B0 nL0) {a ix : Nat} (hs : S a = (3, 0)) {x : Int32} (hlk : Cond.fieldLink own ix "EvenScatter$Scatter" "directions" "I" ∈ wG) (d : decode cc pc = .ok (.putfield ix, 3)) (k : V X kc ks z S (mu I a 3 x) J R (pc + 3) lv st) : V X kc ks z S I J R pc lv (.int x :: .ref a :: st) := v_putG C (ci := 2) (k := 3) (v := .int x) rfl inX2 tyX2_ok nmX2 (sne hs) (cTo_2 hs) (by decide) (Nat.le_of_ble_eq_true rfl) rfl (tyX2_ok 3 (by decide)) rfl rfl hlk d (by rw [cTo_2 hs]; simp [mu]) (fun b hb => cT_congr T0 rfl (mu_ne I x hb) rfl rfl) k
theorem g_2_4 (C : Cx X own cc rm T0 B0 nL0) {a ix : Nat} (hs : S a = (3, 0)) (hlk : Cond.fieldLink own ix "EvenScatter$Scatter" "turn" "I" ∈ wG) (d : decode cc pc = .ok (.getfield ix, 3)) (k : V X kc ks z S I J R (pc + 3) lv (.int (I a 4) :: st)) : V X kc ks z S I J R pc lv (.ref a :: st) := v_getG C (ci := 2) (k := 4) rfl inX2 (sne hs) (cTo_2 hs) (by decide) rfl hlk d k
theorem p_2_4 (C : Cx X own cc rm T0 B0 nL0) {a ix : Nat} (hs : S a = (3, 0)) {x : Int32} (hlk : Cond.fieldLink own ix "EvenScatter$Scatter" "turn" "I" ∈ wG) (d : decode cc pc = .ok (.putfield ix, 3)) (k : V X kc ks z S (mu I a 4 x) J R (pc + 3) lv st) : V X kc ks z S I J R pc lv (.int x :: .ref a :: st) := v_putG C (ci := 2) (k := 4) (v := .int x) rfl inX2 tyX2_ok nmX2 (sne hs) (cTo_2 hs) (by decide) (Nat.le_of_ble_eq_true rfl) rfl (tyX2_ok 4 (by decide)) rfl rfl hlk d (by rw [cTo_2 hs]; simp [mu]) (fun b hb => cT_congr T0 rfl (mu_ne I x hb) rfl rfl) k
theorem g_2_5 (C : Cx X own cc rm T0 B0 nL0) {a ix : Nat} (hs : S a = (3, 0)) {b : Nat} (hr : R a 5 = some b) (hlk : Cond.fieldLink own ix "EvenScatter$Scatter" "rows" "[I" ∈ wG) (d : decode cc pc = .ok (.getfield ix, 3)) (k : V X kc ks z S I J R (pc + 3) lv (.ref b :: st)) : V X kc ks z S I J R pc lv (.ref a :: st) := v_getG C (ci := 2) (k := 5) (v := .ref b) rfl inX2 (sne hs) (cTo_2 hs) (by decide) (by show some (va_rf (R a 5)) = some (.ref b); rw [hr]; rfl) hlk d k
theorem p_2_5 (C : Cx X own cc rm T0 B0 nL0) (hI : IsInit X) {a ix : Nat} (hs : S a = (3, 0)) {b : Nat} (hlk : Cond.fieldLink own ix "EvenScatter$Scatter" "rows" "[I" ∈ wG) (d : decode cc pc = .ok (.putfield ix, 3)) (hw : own = "EvenScatter$Scatter" := by rfl) (k : V X kc ks z S I J (mu R a 5 (some b)) (pc + 3) lv st) : V X kc ks z S I J R pc lv (.ref b :: .ref a :: st) := v_putF C hI (ci := 2) (k := 5) (v := .ref b) rfl inX2 tyX2_ok nmX2 (sne hs) (cTo_2 hs) (by decide) (Nat.le_of_ble_eq_true rfl) rfl hw.symm (tyX2_ok 5 (by decide)) rfl rfl hlk d (by rw [cTo_2 hs]; simp [mu, va_rf]) (fun b hb => cT_congr T0 rfl rfl rfl (mu_ne R _ hb)) k
theorem g_2_6 (C : Cx X own cc rm T0 B0 nL0) {a ix : Nat} (hs : S a = (3, 0)) {b : Nat} (hr : R a 6 = some b) (hlk : Cond.fieldLink own ix "EvenScatter$Scatter" "masks" "[I" ∈ wG) (d : decode cc pc = .ok (.getfield ix, 3)) (k : V X kc ks z S I J R (pc + 3) lv (.ref b :: st)) : V X kc ks z S I J R pc lv (.ref a :: st) := v_getG C (ci := 2) (k := 6) (v := .ref b) rfl inX2 (sne hs) (cTo_2 hs) (by decide) (by show some (va_rf (R a 6)) = some (.ref b); rw [hr]; rfl) hlk d k
theorem p_2_6 (C : Cx X own cc rm T0 B0 nL0) (hI : IsInit X) {a ix : Nat} (hs : S a = (3, 0)) {b : Nat} (hlk : Cond.fieldLink own ix "EvenScatter$Scatter" "masks" "[I" ∈ wG) (d : decode cc pc = .ok (.putfield ix, 3)) (hw : own = "EvenScatter$Scatter" := by rfl) (k : V X kc ks z S I J (mu R a 6 (some b)) (pc + 3) lv st) : V X kc ks z S I J R pc lv (.ref b :: .ref a :: st) := v_putF C hI (ci := 2) (k := 6) (v := .ref b) rfl inX2 tyX2_ok nmX2 (sne hs) (cTo_2 hs) (by decide) (Nat.le_of_ble_eq_true rfl) rfl hw.symm (tyX2_ok 6 (by decide)) rfl rfl hlk d (by rw [cTo_2 hs]; simp [mu, va_rf]) (fun b hb => cT_congr T0 rfl rfl rfl (mu_ne R _ hb)) k
theorem g_2_7 (C : Cx X own cc rm T0 B0 nL0) {a ix : Nat} (hs : S a = (3, 0)) {b : Nat} (hr : R a 7 = some b) (hlk : Cond.fieldLink own ix "EvenScatter$Scatter" "steps" "[I" ∈ wG) (d : decode cc pc = .ok (.getfield ix, 3)) (k : V X kc ks z S I J R (pc + 3) lv (.ref b :: st)) : V X kc ks z S I J R pc lv (.ref a :: st) := v_getG C (ci := 2) (k := 7) (v := .ref b) rfl inX2 (sne hs) (cTo_2 hs) (by decide) (by show some (va_rf (R a 7)) = some (.ref b); rw [hr]; rfl) hlk d k
theorem p_2_7 (C : Cx X own cc rm T0 B0 nL0) (hI : IsInit X) {a ix : Nat} (hs : S a = (3, 0)) {b : Nat} (hlk : Cond.fieldLink own ix "EvenScatter$Scatter" "steps" "[I" ∈ wG) (d : decode cc pc = .ok (.putfield ix, 3)) (hw : own = "EvenScatter$Scatter" := by rfl) (k : V X kc ks z S I J (mu R a 7 (some b)) (pc + 3) lv st) : V X kc ks z S I J R pc lv (.ref b :: .ref a :: st) := v_putF C hI (ci := 2) (k := 7) (v := .ref b) rfl inX2 tyX2_ok nmX2 (sne hs) (cTo_2 hs) (by decide) (Nat.le_of_ble_eq_true rfl) rfl hw.symm (tyX2_ok 7 (by decide)) rfl rfl hlk d (by rw [cTo_2 hs]; simp [mu, va_rf]) (fun b hb => cT_congr T0 rfl rfl rfl (mu_ne R _ hb)) k
theorem g_2_8 (C : Cx X own cc rm T0 B0 nL0) {a ix : Nat} (hs : S a = (3, 0)) {b : Nat} (hr : R a 8 = some b) (hlk : Cond.fieldLink own ix "EvenScatter$Scatter" "parts" "[I" ∈ wG) (d : decode cc pc = .ok (.getfield ix, 3)) (k : V X kc ks z S I J R (pc + 3) lv (.ref b :: st)) : V X kc ks z S I J R pc lv (.ref a :: st) := v_getG C (ci := 2) (k := 8) (v := .ref b) rfl inX2 (sne hs) (cTo_2 hs) (by decide) (by show some (va_rf (R a 8)) = some (.ref b); rw [hr]; rfl) hlk d k
theorem p_2_8 (C : Cx X own cc rm T0 B0 nL0) (hI : IsInit X) {a ix : Nat} (hs : S a = (3, 0)) {b : Nat} (hlk : Cond.fieldLink own ix "EvenScatter$Scatter" "parts" "[I" ∈ wG) (d : decode cc pc = .ok (.putfield ix, 3)) (hw : own = "EvenScatter$Scatter" := by rfl) (k : V X kc ks z S I J (mu R a 8 (some b)) (pc + 3) lv st) : V X kc ks z S I J R pc lv (.ref b :: .ref a :: st) := v_putF C hI (ci := 2) (k := 8) (v := .ref b) rfl inX2 tyX2_ok nmX2 (sne hs) (cTo_2 hs) (by decide) (Nat.le_of_ble_eq_true rfl) rfl hw.symm (tyX2_ok 8 (by decide)) rfl rfl hlk d (by rw [cTo_2 hs]; simp [mu, va_rf]) (fun b hb => cT_congr T0 rfl rfl rfl (mu_ne R _ hb)) k
theorem n_2 (C : Cx X own cc rm T0 B0 nL0) {ix : Nat} (hlk : Cond.classLink own ix "EvenScatter$Scatter" ∈ wG) (hc : kc + 1 ≤ rm.cells) (hs : ks + 9 ≤ rm.slots) (d : decode cc pc = .ok (.new ix, 3)) (k : V X (kc + 1) (ks + 9) (z + 1) (su S z 3 0) (mz I z 0) (mz J z 0) (mz R z none) (pc + 3) lv (.ref z :: st)) : V X kc ks z S I J R pc lv st := v_newG C (ci := 2) (N := 9) (fs := [.int 0, .int 0, .int 0, .int 0, .int 0, .null, .null, .null, .null]) rfl inX2 tyX2 tyX2_ok (fun j hj => by rcases (show j = 0 ∨ j = 1 ∨ j = 2 ∨ j = 3 ∨ j = 4 ∨ j = 5 ∨ j = 6 ∨ j = 7 ∨ j = 8 by omega) with rfl | rfl | rfl | rfl | rfl | rfl | rfl | rfl | rfl <;> rfl) hlk wt_131 wt_6 hc hs d (by rw [cTo_2 (su_at S z 3 0)]; simp [mz, va_rf]) k
theorem g_3_0 (C : Cx X own cc rm T0 B0 nL0) {a ix : Nat} (hs : S a = (4, 0)) {b : Nat} (hr : R a 0 = some b) (hlk : Cond.fieldLink own ix "EvenScatter$Tray" "lows" "[I" ∈ wG) (d : decode cc pc = .ok (.getfield ix, 3)) (k : V X kc ks z S I J R (pc + 3) lv (.ref b :: st)) : V X kc ks z S I J R pc lv (.ref a :: st) := v_getG C (ci := 3) (k := 0) (v := .ref b) rfl inX3 (sne hs) (cTo_3 hs) (by decide) (by show some (va_rf (R a 0)) = some (.ref b); rw [hr]; rfl) hlk d k
theorem p_3_0 (C : Cx X own cc rm T0 B0 nL0) (hI : IsInit X) {a ix : Nat} (hs : S a = (4, 0)) {b : Nat} (hlk : Cond.fieldLink own ix "EvenScatter$Tray" "lows" "[I" ∈ wG) (d : decode cc pc = .ok (.putfield ix, 3)) (hw : own = "EvenScatter$Tray" := by rfl) (k : V X kc ks z S I J (mu R a 0 (some b)) (pc + 3) lv st) : V X kc ks z S I J R pc lv (.ref b :: .ref a :: st) := v_putF C hI (ci := 3) (k := 0) (v := .ref b) rfl inX3 tyX3_ok nmX3 (sne hs) (cTo_3 hs) (by decide) (Nat.le_of_ble_eq_true rfl) rfl hw.symm (tyX3_ok 0 (by decide)) rfl rfl hlk d (by rw [cTo_3 hs]; simp [mu, va_rf]) (fun b hb => cT_congr T0 rfl rfl rfl (mu_ne R _ hb)) k
theorem g_3_1 (C : Cx X own cc rm T0 B0 nL0) {a ix : Nat} (hs : S a = (4, 0)) {b : Nat} (hr : R a 1 = some b) (hlk : Cond.fieldLink own ix "EvenScatter$Tray" "highs" "[I" ∈ wG) (d : decode cc pc = .ok (.getfield ix, 3)) (k : V X kc ks z S I J R (pc + 3) lv (.ref b :: st)) : V X kc ks z S I J R pc lv (.ref a :: st) := v_getG C (ci := 3) (k := 1) (v := .ref b) rfl inX3 (sne hs) (cTo_3 hs) (by decide) (by show some (va_rf (R a 1)) = some (.ref b); rw [hr]; rfl) hlk d k
theorem p_3_1 (C : Cx X own cc rm T0 B0 nL0) (hI : IsInit X) {a ix : Nat} (hs : S a = (4, 0)) {b : Nat} (hlk : Cond.fieldLink own ix "EvenScatter$Tray" "highs" "[I" ∈ wG) (d : decode cc pc = .ok (.putfield ix, 3)) (hw : own = "EvenScatter$Tray" := by rfl) (k : V X kc ks z S I J (mu R a 1 (some b)) (pc + 3) lv st) : V X kc ks z S I J R pc lv (.ref b :: .ref a :: st) := v_putF C hI (ci := 3) (k := 1) (v := .ref b) rfl inX3 tyX3_ok nmX3 (sne hs) (cTo_3 hs) (by decide) (Nat.le_of_ble_eq_true rfl) rfl hw.symm (tyX3_ok 1 (by decide)) rfl rfl hlk d (by rw [cTo_3 hs]; simp [mu, va_rf]) (fun b hb => cT_congr T0 rfl rfl rfl (mu_ne R _ hb)) k
theorem g_3_2 (C : Cx X own cc rm T0 B0 nL0) {a ix : Nat} (hs : S a = (4, 0)) {b : Nat} (hr : R a 2 = some b) (hlk : Cond.fieldLink own ix "EvenScatter$Tray" "marks" "[I" ∈ wG) (d : decode cc pc = .ok (.getfield ix, 3)) (k : V X kc ks z S I J R (pc + 3) lv (.ref b :: st)) : V X kc ks z S I J R pc lv (.ref a :: st) := v_getG C (ci := 3) (k := 2) (v := .ref b) rfl inX3 (sne hs) (cTo_3 hs) (by decide) (by show some (va_rf (R a 2)) = some (.ref b); rw [hr]; rfl) hlk d k
theorem p_3_2 (C : Cx X own cc rm T0 B0 nL0) (hI : IsInit X) {a ix : Nat} (hs : S a = (4, 0)) {b : Nat} (hlk : Cond.fieldLink own ix "EvenScatter$Tray" "marks" "[I" ∈ wG) (d : decode cc pc = .ok (.putfield ix, 3)) (hw : own = "EvenScatter$Tray" := by rfl) (k : V X kc ks z S I J (mu R a 2 (some b)) (pc + 3) lv st) : V X kc ks z S I J R pc lv (.ref b :: .ref a :: st) := v_putF C hI (ci := 3) (k := 2) (v := .ref b) rfl inX3 tyX3_ok nmX3 (sne hs) (cTo_3 hs) (by decide) (Nat.le_of_ble_eq_true rfl) rfl hw.symm (tyX3_ok 2 (by decide)) rfl rfl hlk d (by rw [cTo_3 hs]; simp [mu, va_rf]) (fun b hb => cT_congr T0 rfl rfl rfl (mu_ne R _ hb)) k
theorem n_3 (C : Cx X own cc rm T0 B0 nL0) {ix : Nat} (hlk : Cond.classLink own ix "EvenScatter$Tray" ∈ wG) (hc : kc + 1 ≤ rm.cells) (hs : ks + 3 ≤ rm.slots) (d : decode cc pc = .ok (.new ix, 3)) (k : V X (kc + 1) (ks + 3) (z + 1) (su S z 4 0) (mz I z 0) (mz J z 0) (mz R z none) (pc + 3) lv (.ref z :: st)) : V X kc ks z S I J R pc lv st := v_newG C (ci := 3) (N := 3) (fs := [.null, .null, .null]) rfl inX3 tyX3 tyX3_ok (fun j hj => by rcases (show j = 0 ∨ j = 1 ∨ j = 2 by omega) with rfl | rfl | rfl <;> rfl) hlk wt_22 wt_2 hc hs d (by rw [cTo_3 (su_at S z 4 0)]; simp [mz, va_rf]) k
theorem g_4_0 (C : Cx X own cc rm T0 B0 nL0) {a ix : Nat} (hs : S a = (5, 0)) {b : Nat} (hr : R a 0 = some b) (hlk : Cond.fieldLink own ix "EvenScatter" "scatters" "[LEvenScatter$Scatter;" ∈ wG) (d : decode cc pc = .ok (.getfield ix, 3)) (k : V X kc ks z S I J R (pc + 3) lv (.ref b :: st)) : V X kc ks z S I J R pc lv (.ref a :: st) := v_getG C (ci := 4) (k := 0) (v := .ref b) rfl inX4 (sne hs) (cTo_4 hs) (by decide) (by show some (va_rf (R a 0)) = some (.ref b); rw [hr]; rfl) hlk d k
theorem p_4_0 (C : Cx X own cc rm T0 B0 nL0) (hI : IsInit X) {a ix : Nat} (hs : S a = (5, 0)) {b : Nat} (hlk : Cond.fieldLink own ix "EvenScatter" "scatters" "[LEvenScatter$Scatter;" ∈ wG) (d : decode cc pc = .ok (.putfield ix, 3)) (hw : own = "EvenScatter" := by rfl) (k : V X kc ks z S I J (mu R a 0 (some b)) (pc + 3) lv st) : V X kc ks z S I J R pc lv (.ref b :: .ref a :: st) := v_putF C hI (ci := 4) (k := 0) (v := .ref b) rfl inX4 tyX4_ok nmX4 (sne hs) (cTo_4 hs) (by decide) (Nat.le_of_ble_eq_true rfl) rfl hw.symm (tyX4_ok 0 (by decide)) rfl rfl hlk d (by rw [cTo_4 hs]; simp [mu, va_rf]) (fun b hb => cT_congr T0 rfl rfl rfl (mu_ne R _ hb)) k
theorem g_4_1 (C : Cx X own cc rm T0 B0 nL0) {a ix : Nat} (hs : S a = (5, 0)) {b : Nat} (hr : R a 1 = some b) (hlk : Cond.fieldLink own ix "EvenScatter" "tray" "LEvenScatter$Tray;" ∈ wG) (d : decode cc pc = .ok (.getfield ix, 3)) (k : V X kc ks z S I J R (pc + 3) lv (.ref b :: st)) : V X kc ks z S I J R pc lv (.ref a :: st) := v_getG C (ci := 4) (k := 1) (v := .ref b) rfl inX4 (sne hs) (cTo_4 hs) (by decide) (by show some (va_rf (R a 1)) = some (.ref b); rw [hr]; rfl) hlk d k
theorem p_4_1 (C : Cx X own cc rm T0 B0 nL0) (hI : IsInit X) {a ix : Nat} (hs : S a = (5, 0)) {b : Nat} (hlk : Cond.fieldLink own ix "EvenScatter" "tray" "LEvenScatter$Tray;" ∈ wG) (d : decode cc pc = .ok (.putfield ix, 3)) (hw : own = "EvenScatter" := by rfl) (k : V X kc ks z S I J (mu R a 1 (some b)) (pc + 3) lv st) : V X kc ks z S I J R pc lv (.ref b :: .ref a :: st) := v_putF C hI (ci := 4) (k := 1) (v := .ref b) rfl inX4 tyX4_ok nmX4 (sne hs) (cTo_4 hs) (by decide) (Nat.le_of_ble_eq_true rfl) rfl hw.symm (tyX4_ok 1 (by decide)) rfl rfl hlk d (by rw [cTo_4 hs]; simp [mu, va_rf]) (fun b hb => cT_congr T0 rfl rfl rfl (mu_ne R _ hb)) k
theorem g_4_2 (C : Cx X own cc rm T0 B0 nL0) {a ix : Nat} (hs : S a = (5, 0)) {b : Nat} (hr : R a 2 = some b) (hlk : Cond.fieldLink own ix "EvenScatter" "ranks" "LEvenScatter$Ranks;" ∈ wG) (d : decode cc pc = .ok (.getfield ix, 3)) (k : V X kc ks z S I J R (pc + 3) lv (.ref b :: st)) : V X kc ks z S I J R pc lv (.ref a :: st) := v_getG C (ci := 4) (k := 2) (v := .ref b) rfl inX4 (sne hs) (cTo_4 hs) (by decide) (by show some (va_rf (R a 2)) = some (.ref b); rw [hr]; rfl) hlk d k
theorem p_4_2 (C : Cx X own cc rm T0 B0 nL0) (hI : IsInit X) {a ix : Nat} (hs : S a = (5, 0)) {b : Nat} (hlk : Cond.fieldLink own ix "EvenScatter" "ranks" "LEvenScatter$Ranks;" ∈ wG) (d : decode cc pc = .ok (.putfield ix, 3)) (hw : own = "EvenScatter" := by rfl) (k : V X kc ks z S I J (mu R a 2 (some b)) (pc + 3) lv st) : V X kc ks z S I J R pc lv (.ref b :: .ref a :: st) := v_putF C hI (ci := 4) (k := 2) (v := .ref b) rfl inX4 tyX4_ok nmX4 (sne hs) (cTo_4 hs) (by decide) (Nat.le_of_ble_eq_true rfl) rfl hw.symm (tyX4_ok 2 (by decide)) rfl rfl hlk d (by rw [cTo_4 hs]; simp [mu, va_rf]) (fun b hb => cT_congr T0 rfl rfl rfl (mu_ne R _ hb)) k
theorem g_4_3 (C : Cx X own cc rm T0 B0 nL0) {a ix : Nat} (hs : S a = (5, 0)) {b : Nat} (hr : R a 3 = some b) (hlk : Cond.fieldLink own ix "EvenScatter" "cells" "[I" ∈ wG) (d : decode cc pc = .ok (.getfield ix, 3)) (k : V X kc ks z S I J R (pc + 3) lv (.ref b :: st)) : V X kc ks z S I J R pc lv (.ref a :: st) := v_getG C (ci := 4) (k := 3) (v := .ref b) rfl inX4 (sne hs) (cTo_4 hs) (by decide) (by show some (va_rf (R a 3)) = some (.ref b); rw [hr]; rfl) hlk d k
theorem p_4_3 (C : Cx X own cc rm T0 B0 nL0) (hI : IsInit X) {a ix : Nat} (hs : S a = (5, 0)) {b : Nat} (hlk : Cond.fieldLink own ix "EvenScatter" "cells" "[I" ∈ wG) (d : decode cc pc = .ok (.putfield ix, 3)) (hw : own = "EvenScatter" := by rfl) (k : V X kc ks z S I J (mu R a 3 (some b)) (pc + 3) lv st) : V X kc ks z S I J R pc lv (.ref b :: .ref a :: st) := v_putF C hI (ci := 4) (k := 3) (v := .ref b) rfl inX4 tyX4_ok nmX4 (sne hs) (cTo_4 hs) (by decide) (Nat.le_of_ble_eq_true rfl) rfl hw.symm (tyX4_ok 3 (by decide)) rfl rfl hlk d (by rw [cTo_4 hs]; simp [mu, va_rf]) (fun b hb => cT_congr T0 rfl rfl rfl (mu_ne R _ hb)) k
theorem g_4_4 (C : Cx X own cc rm T0 B0 nL0) {a ix : Nat} (hs : S a = (5, 0)) {b : Nat} (hr : R a 4 = some b) (hlk : Cond.fieldLink own ix "EvenScatter" "corners" "LEvenScatter$Corners;" ∈ wG) (d : decode cc pc = .ok (.getfield ix, 3)) (k : V X kc ks z S I J R (pc + 3) lv (.ref b :: st)) : V X kc ks z S I J R pc lv (.ref a :: st) := v_getG C (ci := 4) (k := 4) (v := .ref b) rfl inX4 (sne hs) (cTo_4 hs) (by decide) (by show some (va_rf (R a 4)) = some (.ref b); rw [hr]; rfl) hlk d k
theorem p_4_4 (C : Cx X own cc rm T0 B0 nL0) (hI : IsInit X) {a ix : Nat} (hs : S a = (5, 0)) {b : Nat} (hlk : Cond.fieldLink own ix "EvenScatter" "corners" "LEvenScatter$Corners;" ∈ wG) (d : decode cc pc = .ok (.putfield ix, 3)) (hw : own = "EvenScatter" := by rfl) (k : V X kc ks z S I J (mu R a 4 (some b)) (pc + 3) lv st) : V X kc ks z S I J R pc lv (.ref b :: .ref a :: st) := v_putF C hI (ci := 4) (k := 4) (v := .ref b) rfl inX4 tyX4_ok nmX4 (sne hs) (cTo_4 hs) (by decide) (Nat.le_of_ble_eq_true rfl) rfl hw.symm (tyX4_ok 4 (by decide)) rfl rfl hlk d (by rw [cTo_4 hs]; simp [mu, va_rf]) (fun b hb => cT_congr T0 rfl rfl rfl (mu_ne R _ hb)) k
theorem g_4_5 (C : Cx X own cc rm T0 B0 nL0) {a ix : Nat} (hs : S a = (5, 0)) {b : Nat} (hr : R a 5 = some b) (hlk : Cond.fieldLink own ix "EvenScatter" "refusals" "[I" ∈ wG) (d : decode cc pc = .ok (.getfield ix, 3)) (k : V X kc ks z S I J R (pc + 3) lv (.ref b :: st)) : V X kc ks z S I J R pc lv (.ref a :: st) := v_getG C (ci := 4) (k := 5) (v := .ref b) rfl inX4 (sne hs) (cTo_4 hs) (by decide) (by show some (va_rf (R a 5)) = some (.ref b); rw [hr]; rfl) hlk d k
theorem p_4_5 (C : Cx X own cc rm T0 B0 nL0) (hI : IsInit X) {a ix : Nat} (hs : S a = (5, 0)) {b : Nat} (hlk : Cond.fieldLink own ix "EvenScatter" "refusals" "[I" ∈ wG) (d : decode cc pc = .ok (.putfield ix, 3)) (hw : own = "EvenScatter" := by rfl) (k : V X kc ks z S I J (mu R a 5 (some b)) (pc + 3) lv st) : V X kc ks z S I J R pc lv (.ref b :: .ref a :: st) := v_putF C hI (ci := 4) (k := 5) (v := .ref b) rfl inX4 tyX4_ok nmX4 (sne hs) (cTo_4 hs) (by decide) (Nat.le_of_ble_eq_true rfl) rfl hw.symm (tyX4_ok 5 (by decide)) rfl rfl hlk d (by rw [cTo_4 hs]; simp [mu, va_rf]) (fun b hb => cT_congr T0 rfl rfl rfl (mu_ne R _ hb)) k
theorem g_4_6 (C : Cx X own cc rm T0 B0 nL0) {a ix : Nat} (hs : S a = (5, 0)) (hlk : Cond.fieldLink own ix "EvenScatter" "made" "I" ∈ wG) (d : decode cc pc = .ok (.getfield ix, 3)) (k : V X kc ks z S I J R (pc + 3) lv (.int (I a 6) :: st)) : V X kc ks z S I J R pc lv (.ref a :: st) := v_getG C (ci := 4) (k := 6) rfl inX4 (sne hs) (cTo_4 hs) (by decide) rfl hlk d k
theorem p_4_6 (C : Cx X own cc rm T0 B0 nL0) {a ix : Nat} (hs : S a = (5, 0)) {x : Int32} (hlk : Cond.fieldLink own ix "EvenScatter" "made" "I" ∈ wG) (d : decode cc pc = .ok (.putfield ix, 3)) (k : V X kc ks z S (mu I a 6 x) J R (pc + 3) lv st) : V X kc ks z S I J R pc lv (.int x :: .ref a :: st) := v_putG C (ci := 4) (k := 6) (v := .int x) rfl inX4 tyX4_ok nmX4 (sne hs) (cTo_4 hs) (by decide) (Nat.le_of_ble_eq_true rfl) rfl (tyX4_ok 6 (by decide)) rfl rfl hlk d (by rw [cTo_4 hs]; simp [mu]) (fun b hb => cT_congr T0 rfl (mu_ne I x hb) rfl rfl) k
theorem g_4_7 (C : Cx X own cc rm T0 B0 nL0) {a ix : Nat} (hs : S a = (5, 0)) (hlk : Cond.fieldLink own ix "EvenScatter" "told" "I" ∈ wG) (d : decode cc pc = .ok (.getfield ix, 3)) (k : V X kc ks z S I J R (pc + 3) lv (.int (I a 7) :: st)) : V X kc ks z S I J R pc lv (.ref a :: st) := v_getG C (ci := 4) (k := 7) rfl inX4 (sne hs) (cTo_4 hs) (by decide) rfl hlk d k
theorem p_4_7 (C : Cx X own cc rm T0 B0 nL0) {a ix : Nat} (hs : S a = (5, 0)) {x : Int32} (hlk : Cond.fieldLink own ix "EvenScatter" "told" "I" ∈ wG) (d : decode cc pc = .ok (.putfield ix, 3)) (k : V X kc ks z S (mu I a 7 x) J R (pc + 3) lv st) : V X kc ks z S I J R pc lv (.int x :: .ref a :: st) := v_putG C (ci := 4) (k := 7) (v := .int x) rfl inX4 tyX4_ok nmX4 (sne hs) (cTo_4 hs) (by decide) (Nat.le_of_ble_eq_true rfl) rfl (tyX4_ok 7 (by decide)) rfl rfl hlk d (by rw [cTo_4 hs]; simp [mu]) (fun b hb => cT_congr T0 rfl (mu_ne I x hb) rfl rfl) k
theorem n_4 (C : Cx X own cc rm T0 B0 nL0) {ix : Nat} (hlk : Cond.classLink own ix "EvenScatter" ∈ wG) (hc : kc + 1 ≤ rm.cells) (hs : ks + 8 ≤ rm.slots) (d : decode cc pc = .ok (.new ix, 3)) (k : V X (kc + 1) (ks + 8) (z + 1) (su S z 5 0) (mz I z 0) (mz J z 0) (mz R z none) (pc + 3) lv (.ref z :: st)) : V X kc ks z S I J R pc lv st := v_newG C (ci := 4) (N := 8) (fs := [.null, .null, .null, .null, .null, .null, .int 0, .int 0]) rfl inX4 tyX4 tyX4_ok (fun j hj => by rcases (show j = 0 ∨ j = 1 ∨ j = 2 ∨ j = 3 ∨ j = 4 ∨ j = 5 ∨ j = 6 ∨ j = 7 by omega) with rfl | rfl | rfl | rfl | rfl | rfl | rfl | rfl <;> rfl) hlk wt_12 wt_1 hc hs d (by rw [cTo_4 (su_at S z 5 0)]; simp [mz, va_rf]) k
theorem g_5_0 (C : Cx X own cc rm T0 B0 nL0) {a ix : Nat} (hs : S a = (6, 0)) (hlk : Cond.fieldLink own ix "EvenScatterModel" "many" "I" ∈ wG) (d : decode cc pc = .ok (.getfield ix, 3)) (k : V X kc ks z S I J R (pc + 3) lv (.int (I a 0) :: st)) : V X kc ks z S I J R pc lv (.ref a :: st) := v_getG C (ci := 5) (k := 0) rfl inX5 (sne hs) (cTo_5 hs) (by decide) rfl hlk d k
theorem p_5_0 (C : Cx X own cc rm T0 B0 nL0) {a ix : Nat} (hs : S a = (6, 0)) {x : Int32} (hlk : Cond.fieldLink own ix "EvenScatterModel" "many" "I" ∈ wG) (d : decode cc pc = .ok (.putfield ix, 3)) (k : V X kc ks z S (mu I a 0 x) J R (pc + 3) lv st) : V X kc ks z S I J R pc lv (.int x :: .ref a :: st) := v_putG C (ci := 5) (k := 0) (v := .int x) rfl inX5 tyX5_ok nmX5 (sne hs) (cTo_5 hs) (by decide) (Nat.le_of_ble_eq_true rfl) rfl (tyX5_ok 0 (by decide)) rfl rfl hlk d (by rw [cTo_5 hs]; simp [mu]) (fun b hb => cT_congr T0 rfl (mu_ne I x hb) rfl rfl) k
theorem g_5_1 (C : Cx X own cc rm T0 B0 nL0) {a ix : Nat} (hs : S a = (6, 0)) {b : Nat} (hr : R a 1 = some b) (hlk : Cond.fieldLink own ix "EvenScatterModel" "kind" "[I" ∈ wG) (d : decode cc pc = .ok (.getfield ix, 3)) (k : V X kc ks z S I J R (pc + 3) lv (.ref b :: st)) : V X kc ks z S I J R pc lv (.ref a :: st) := v_getG C (ci := 5) (k := 1) (v := .ref b) rfl inX5 (sne hs) (cTo_5 hs) (by decide) (by show some (va_rf (R a 1)) = some (.ref b); rw [hr]; rfl) hlk d k
theorem p_5_1 (C : Cx X own cc rm T0 B0 nL0) (hI : IsInit X) {a ix : Nat} (hs : S a = (6, 0)) {b : Nat} (hlk : Cond.fieldLink own ix "EvenScatterModel" "kind" "[I" ∈ wG) (d : decode cc pc = .ok (.putfield ix, 3)) (hw : own = "EvenScatterModel" := by rfl) (k : V X kc ks z S I J (mu R a 1 (some b)) (pc + 3) lv st) : V X kc ks z S I J R pc lv (.ref b :: .ref a :: st) := v_putF C hI (ci := 5) (k := 1) (v := .ref b) rfl inX5 tyX5_ok nmX5 (sne hs) (cTo_5 hs) (by decide) (Nat.le_of_ble_eq_true rfl) rfl hw.symm (tyX5_ok 1 (by decide)) rfl rfl hlk d (by rw [cTo_5 hs]; simp [mu, va_rf]) (fun b hb => cT_congr T0 rfl rfl rfl (mu_ne R _ hb)) k
theorem g_5_2 (C : Cx X own cc rm T0 B0 nL0) {a ix : Nat} (hs : S a = (6, 0)) {b : Nat} (hr : R a 2 = some b) (hlk : Cond.fieldLink own ix "EvenScatterModel" "dims" "[I" ∈ wG) (d : decode cc pc = .ok (.getfield ix, 3)) (k : V X kc ks z S I J R (pc + 3) lv (.ref b :: st)) : V X kc ks z S I J R pc lv (.ref a :: st) := v_getG C (ci := 5) (k := 2) (v := .ref b) rfl inX5 (sne hs) (cTo_5 hs) (by decide) (by show some (va_rf (R a 2)) = some (.ref b); rw [hr]; rfl) hlk d k
theorem p_5_2 (C : Cx X own cc rm T0 B0 nL0) (hI : IsInit X) {a ix : Nat} (hs : S a = (6, 0)) {b : Nat} (hlk : Cond.fieldLink own ix "EvenScatterModel" "dims" "[I" ∈ wG) (d : decode cc pc = .ok (.putfield ix, 3)) (hw : own = "EvenScatterModel" := by rfl) (k : V X kc ks z S I J (mu R a 2 (some b)) (pc + 3) lv st) : V X kc ks z S I J R pc lv (.ref b :: .ref a :: st) := v_putF C hI (ci := 5) (k := 2) (v := .ref b) rfl inX5 tyX5_ok nmX5 (sne hs) (cTo_5 hs) (by decide) (Nat.le_of_ble_eq_true rfl) rfl hw.symm (tyX5_ok 2 (by decide)) rfl rfl hlk d (by rw [cTo_5 hs]; simp [mu, va_rf]) (fun b hb => cT_congr T0 rfl rfl rfl (mu_ne R _ hb)) k
theorem g_5_3 (C : Cx X own cc rm T0 B0 nL0) {a ix : Nat} (hs : S a = (6, 0)) {b : Nat} (hr : R a 3 = some b) (hlk : Cond.fieldLink own ix "EvenScatterModel" "power" "[I" ∈ wG) (d : decode cc pc = .ok (.getfield ix, 3)) (k : V X kc ks z S I J R (pc + 3) lv (.ref b :: st)) : V X kc ks z S I J R pc lv (.ref a :: st) := v_getG C (ci := 5) (k := 3) (v := .ref b) rfl inX5 (sne hs) (cTo_5 hs) (by decide) (by show some (va_rf (R a 3)) = some (.ref b); rw [hr]; rfl) hlk d k
theorem p_5_3 (C : Cx X own cc rm T0 B0 nL0) (hI : IsInit X) {a ix : Nat} (hs : S a = (6, 0)) {b : Nat} (hlk : Cond.fieldLink own ix "EvenScatterModel" "power" "[I" ∈ wG) (d : decode cc pc = .ok (.putfield ix, 3)) (hw : own = "EvenScatterModel" := by rfl) (k : V X kc ks z S I J (mu R a 3 (some b)) (pc + 3) lv st) : V X kc ks z S I J R pc lv (.ref b :: .ref a :: st) := v_putF C hI (ci := 5) (k := 3) (v := .ref b) rfl inX5 tyX5_ok nmX5 (sne hs) (cTo_5 hs) (by decide) (Nat.le_of_ble_eq_true rfl) rfl hw.symm (tyX5_ok 3 (by decide)) rfl rfl hlk d (by rw [cTo_5 hs]; simp [mu, va_rf]) (fun b hb => cT_congr T0 rfl rfl rfl (mu_ne R _ hb)) k
theorem g_5_4 (C : Cx X own cc rm T0 B0 nL0) {a ix : Nat} (hs : S a = (6, 0)) {b : Nat} (hr : R a 4 = some b) (hlk : Cond.fieldLink own ix "EvenScatterModel" "count" "[I" ∈ wG) (d : decode cc pc = .ok (.getfield ix, 3)) (k : V X kc ks z S I J R (pc + 3) lv (.ref b :: st)) : V X kc ks z S I J R pc lv (.ref a :: st) := v_getG C (ci := 5) (k := 4) (v := .ref b) rfl inX5 (sne hs) (cTo_5 hs) (by decide) (by show some (va_rf (R a 4)) = some (.ref b); rw [hr]; rfl) hlk d k
theorem p_5_4 (C : Cx X own cc rm T0 B0 nL0) (hI : IsInit X) {a ix : Nat} (hs : S a = (6, 0)) {b : Nat} (hlk : Cond.fieldLink own ix "EvenScatterModel" "count" "[I" ∈ wG) (d : decode cc pc = .ok (.putfield ix, 3)) (hw : own = "EvenScatterModel" := by rfl) (k : V X kc ks z S I J (mu R a 4 (some b)) (pc + 3) lv st) : V X kc ks z S I J R pc lv (.ref b :: .ref a :: st) := v_putF C hI (ci := 5) (k := 4) (v := .ref b) rfl inX5 tyX5_ok nmX5 (sne hs) (cTo_5 hs) (by decide) (Nat.le_of_ble_eq_true rfl) rfl hw.symm (tyX5_ok 4 (by decide)) rfl rfl hlk d (by rw [cTo_5 hs]; simp [mu, va_rf]) (fun b hb => cT_congr T0 rfl rfl rfl (mu_ne R _ hb)) k
theorem g_5_5 (C : Cx X own cc rm T0 B0 nL0) {a ix : Nat} (hs : S a = (6, 0)) {b : Nat} (hr : R a 5 = some b) (hlk : Cond.fieldLink own ix "EvenScatterModel" "turn" "[I" ∈ wG) (d : decode cc pc = .ok (.getfield ix, 3)) (k : V X kc ks z S I J R (pc + 3) lv (.ref b :: st)) : V X kc ks z S I J R pc lv (.ref a :: st) := v_getG C (ci := 5) (k := 5) (v := .ref b) rfl inX5 (sne hs) (cTo_5 hs) (by decide) (by show some (va_rf (R a 5)) = some (.ref b); rw [hr]; rfl) hlk d k
theorem p_5_5 (C : Cx X own cc rm T0 B0 nL0) (hI : IsInit X) {a ix : Nat} (hs : S a = (6, 0)) {b : Nat} (hlk : Cond.fieldLink own ix "EvenScatterModel" "turn" "[I" ∈ wG) (d : decode cc pc = .ok (.putfield ix, 3)) (hw : own = "EvenScatterModel" := by rfl) (k : V X kc ks z S I J (mu R a 5 (some b)) (pc + 3) lv st) : V X kc ks z S I J R pc lv (.ref b :: .ref a :: st) := v_putF C hI (ci := 5) (k := 5) (v := .ref b) rfl inX5 tyX5_ok nmX5 (sne hs) (cTo_5 hs) (by decide) (Nat.le_of_ble_eq_true rfl) rfl hw.symm (tyX5_ok 5 (by decide)) rfl rfl hlk d (by rw [cTo_5 hs]; simp [mu, va_rf]) (fun b hb => cT_congr T0 rfl rfl rfl (mu_ne R _ hb)) k
theorem g_5_6 (C : Cx X own cc rm T0 B0 nL0) {a ix : Nat} (hs : S a = (6, 0)) {b : Nat} (hr : R a 6 = some b) (hlk : Cond.fieldLink own ix "EvenScatterModel" "rows" "[I" ∈ wG) (d : decode cc pc = .ok (.getfield ix, 3)) (k : V X kc ks z S I J R (pc + 3) lv (.ref b :: st)) : V X kc ks z S I J R pc lv (.ref a :: st) := v_getG C (ci := 5) (k := 6) (v := .ref b) rfl inX5 (sne hs) (cTo_5 hs) (by decide) (by show some (va_rf (R a 6)) = some (.ref b); rw [hr]; rfl) hlk d k
theorem p_5_6 (C : Cx X own cc rm T0 B0 nL0) (hI : IsInit X) {a ix : Nat} (hs : S a = (6, 0)) {b : Nat} (hlk : Cond.fieldLink own ix "EvenScatterModel" "rows" "[I" ∈ wG) (d : decode cc pc = .ok (.putfield ix, 3)) (hw : own = "EvenScatterModel" := by rfl) (k : V X kc ks z S I J (mu R a 6 (some b)) (pc + 3) lv st) : V X kc ks z S I J R pc lv (.ref b :: .ref a :: st) := v_putF C hI (ci := 5) (k := 6) (v := .ref b) rfl inX5 tyX5_ok nmX5 (sne hs) (cTo_5 hs) (by decide) (Nat.le_of_ble_eq_true rfl) rfl hw.symm (tyX5_ok 6 (by decide)) rfl rfl hlk d (by rw [cTo_5 hs]; simp [mu, va_rf]) (fun b hb => cT_congr T0 rfl rfl rfl (mu_ne R _ hb)) k
theorem g_5_7 (C : Cx X own cc rm T0 B0 nL0) {a ix : Nat} (hs : S a = (6, 0)) {b : Nat} (hr : R a 7 = some b) (hlk : Cond.fieldLink own ix "EvenScatterModel" "masks" "[I" ∈ wG) (d : decode cc pc = .ok (.getfield ix, 3)) (k : V X kc ks z S I J R (pc + 3) lv (.ref b :: st)) : V X kc ks z S I J R pc lv (.ref a :: st) := v_getG C (ci := 5) (k := 7) (v := .ref b) rfl inX5 (sne hs) (cTo_5 hs) (by decide) (by show some (va_rf (R a 7)) = some (.ref b); rw [hr]; rfl) hlk d k
theorem p_5_7 (C : Cx X own cc rm T0 B0 nL0) (hI : IsInit X) {a ix : Nat} (hs : S a = (6, 0)) {b : Nat} (hlk : Cond.fieldLink own ix "EvenScatterModel" "masks" "[I" ∈ wG) (d : decode cc pc = .ok (.putfield ix, 3)) (hw : own = "EvenScatterModel" := by rfl) (k : V X kc ks z S I J (mu R a 7 (some b)) (pc + 3) lv st) : V X kc ks z S I J R pc lv (.ref b :: .ref a :: st) := v_putF C hI (ci := 5) (k := 7) (v := .ref b) rfl inX5 tyX5_ok nmX5 (sne hs) (cTo_5 hs) (by decide) (Nat.le_of_ble_eq_true rfl) rfl hw.symm (tyX5_ok 7 (by decide)) rfl rfl hlk d (by rw [cTo_5 hs]; simp [mu, va_rf]) (fun b hb => cT_congr T0 rfl rfl rfl (mu_ne R _ hb)) k
theorem g_5_8 (C : Cx X own cc rm T0 B0 nL0) {a ix : Nat} (hs : S a = (6, 0)) {b : Nat} (hr : R a 8 = some b) (hlk : Cond.fieldLink own ix "EvenScatterModel" "steps" "[I" ∈ wG) (d : decode cc pc = .ok (.getfield ix, 3)) (k : V X kc ks z S I J R (pc + 3) lv (.ref b :: st)) : V X kc ks z S I J R pc lv (.ref a :: st) := v_getG C (ci := 5) (k := 8) (v := .ref b) rfl inX5 (sne hs) (cTo_5 hs) (by decide) (by show some (va_rf (R a 8)) = some (.ref b); rw [hr]; rfl) hlk d k
theorem p_5_8 (C : Cx X own cc rm T0 B0 nL0) (hI : IsInit X) {a ix : Nat} (hs : S a = (6, 0)) {b : Nat} (hlk : Cond.fieldLink own ix "EvenScatterModel" "steps" "[I" ∈ wG) (d : decode cc pc = .ok (.putfield ix, 3)) (hw : own = "EvenScatterModel" := by rfl) (k : V X kc ks z S I J (mu R a 8 (some b)) (pc + 3) lv st) : V X kc ks z S I J R pc lv (.ref b :: .ref a :: st) := v_putF C hI (ci := 5) (k := 8) (v := .ref b) rfl inX5 tyX5_ok nmX5 (sne hs) (cTo_5 hs) (by decide) (Nat.le_of_ble_eq_true rfl) rfl hw.symm (tyX5_ok 8 (by decide)) rfl rfl hlk d (by rw [cTo_5 hs]; simp [mu, va_rf]) (fun b hb => cT_congr T0 rfl rfl rfl (mu_ne R _ hb)) k
theorem g_5_9 (C : Cx X own cc rm T0 B0 nL0) {a ix : Nat} (hs : S a = (6, 0)) {b : Nat} (hr : R a 9 = some b) (hlk : Cond.fieldLink own ix "EvenScatterModel" "lots" "[I" ∈ wG) (d : decode cc pc = .ok (.getfield ix, 3)) (k : V X kc ks z S I J R (pc + 3) lv (.ref b :: st)) : V X kc ks z S I J R pc lv (.ref a :: st) := v_getG C (ci := 5) (k := 9) (v := .ref b) rfl inX5 (sne hs) (cTo_5 hs) (by decide) (by show some (va_rf (R a 9)) = some (.ref b); rw [hr]; rfl) hlk d k
theorem p_5_9 (C : Cx X own cc rm T0 B0 nL0) (hI : IsInit X) {a ix : Nat} (hs : S a = (6, 0)) {b : Nat} (hlk : Cond.fieldLink own ix "EvenScatterModel" "lots" "[I" ∈ wG) (d : decode cc pc = .ok (.putfield ix, 3)) (hw : own = "EvenScatterModel" := by rfl) (k : V X kc ks z S I J (mu R a 9 (some b)) (pc + 3) lv st) : V X kc ks z S I J R pc lv (.ref b :: .ref a :: st) := v_putF C hI (ci := 5) (k := 9) (v := .ref b) rfl inX5 tyX5_ok nmX5 (sne hs) (cTo_5 hs) (by decide) (Nat.le_of_ble_eq_true rfl) rfl hw.symm (tyX5_ok 9 (by decide)) rfl rfl hlk d (by rw [cTo_5 hs]; simp [mu, va_rf]) (fun b hb => cT_congr T0 rfl rfl rfl (mu_ne R _ hb)) k
theorem g_5_10 (C : Cx X own cc rm T0 B0 nL0) {a ix : Nat} (hs : S a = (6, 0)) {b : Nat} (hr : R a 10 = some b) (hlk : Cond.fieldLink own ix "EvenScatterModel" "low" "[I" ∈ wG) (d : decode cc pc = .ok (.getfield ix, 3)) (k : V X kc ks z S I J R (pc + 3) lv (.ref b :: st)) : V X kc ks z S I J R pc lv (.ref a :: st) := v_getG C (ci := 5) (k := 10) (v := .ref b) rfl inX5 (sne hs) (cTo_5 hs) (by decide) (by show some (va_rf (R a 10)) = some (.ref b); rw [hr]; rfl) hlk d k
theorem p_5_10 (C : Cx X own cc rm T0 B0 nL0) (hI : IsInit X) {a ix : Nat} (hs : S a = (6, 0)) {b : Nat} (hlk : Cond.fieldLink own ix "EvenScatterModel" "low" "[I" ∈ wG) (d : decode cc pc = .ok (.putfield ix, 3)) (hw : own = "EvenScatterModel" := by rfl) (k : V X kc ks z S I J (mu R a 10 (some b)) (pc + 3) lv st) : V X kc ks z S I J R pc lv (.ref b :: .ref a :: st) := v_putF C hI (ci := 5) (k := 10) (v := .ref b) rfl inX5 tyX5_ok nmX5 (sne hs) (cTo_5 hs) (by decide) (Nat.le_of_ble_eq_true rfl) rfl hw.symm (tyX5_ok 10 (by decide)) rfl rfl hlk d (by rw [cTo_5 hs]; simp [mu, va_rf]) (fun b hb => cT_congr T0 rfl rfl rfl (mu_ne R _ hb)) k
theorem g_5_11 (C : Cx X own cc rm T0 B0 nL0) {a ix : Nat} (hs : S a = (6, 0)) {b : Nat} (hr : R a 11 = some b) (hlk : Cond.fieldLink own ix "EvenScatterModel" "high" "[I" ∈ wG) (d : decode cc pc = .ok (.getfield ix, 3)) (k : V X kc ks z S I J R (pc + 3) lv (.ref b :: st)) : V X kc ks z S I J R pc lv (.ref a :: st) := v_getG C (ci := 5) (k := 11) (v := .ref b) rfl inX5 (sne hs) (cTo_5 hs) (by decide) (by show some (va_rf (R a 11)) = some (.ref b); rw [hr]; rfl) hlk d k
theorem p_5_11 (C : Cx X own cc rm T0 B0 nL0) (hI : IsInit X) {a ix : Nat} (hs : S a = (6, 0)) {b : Nat} (hlk : Cond.fieldLink own ix "EvenScatterModel" "high" "[I" ∈ wG) (d : decode cc pc = .ok (.putfield ix, 3)) (hw : own = "EvenScatterModel" := by rfl) (k : V X kc ks z S I J (mu R a 11 (some b)) (pc + 3) lv st) : V X kc ks z S I J R pc lv (.ref b :: .ref a :: st) := v_putF C hI (ci := 5) (k := 11) (v := .ref b) rfl inX5 tyX5_ok nmX5 (sne hs) (cTo_5 hs) (by decide) (Nat.le_of_ble_eq_true rfl) rfl hw.symm (tyX5_ok 11 (by decide)) rfl rfl hlk d (by rw [cTo_5 hs]; simp [mu, va_rf]) (fun b hb => cT_congr T0 rfl rfl rfl (mu_ne R _ hb)) k
theorem g_5_12 (C : Cx X own cc rm T0 B0 nL0) {a ix : Nat} (hs : S a = (6, 0)) {b : Nat} (hr : R a 12 = some b) (hlk : Cond.fieldLink own ix "EvenScatterModel" "marks" "[I" ∈ wG) (d : decode cc pc = .ok (.getfield ix, 3)) (k : V X kc ks z S I J R (pc + 3) lv (.ref b :: st)) : V X kc ks z S I J R pc lv (.ref a :: st) := v_getG C (ci := 5) (k := 12) (v := .ref b) rfl inX5 (sne hs) (cTo_5 hs) (by decide) (by show some (va_rf (R a 12)) = some (.ref b); rw [hr]; rfl) hlk d k
theorem p_5_12 (C : Cx X own cc rm T0 B0 nL0) (hI : IsInit X) {a ix : Nat} (hs : S a = (6, 0)) {b : Nat} (hlk : Cond.fieldLink own ix "EvenScatterModel" "marks" "[I" ∈ wG) (d : decode cc pc = .ok (.putfield ix, 3)) (hw : own = "EvenScatterModel" := by rfl) (k : V X kc ks z S I J (mu R a 12 (some b)) (pc + 3) lv st) : V X kc ks z S I J R pc lv (.ref b :: .ref a :: st) := v_putF C hI (ci := 5) (k := 12) (v := .ref b) rfl inX5 tyX5_ok nmX5 (sne hs) (cTo_5 hs) (by decide) (Nat.le_of_ble_eq_true rfl) rfl hw.symm (tyX5_ok 12 (by decide)) rfl rfl hlk d (by rw [cTo_5 hs]; simp [mu, va_rf]) (fun b hb => cT_congr T0 rfl rfl rfl (mu_ne R _ hb)) k
theorem g_5_13 (C : Cx X own cc rm T0 B0 nL0) {a ix : Nat} (hs : S a = (6, 0)) (hlk : Cond.fieldLink own ix "EvenScatterModel" "told" "I" ∈ wG) (d : decode cc pc = .ok (.getfield ix, 3)) (k : V X kc ks z S I J R (pc + 3) lv (.int (I a 13) :: st)) : V X kc ks z S I J R pc lv (.ref a :: st) := v_getG C (ci := 5) (k := 13) rfl inX5 (sne hs) (cTo_5 hs) (by decide) rfl hlk d k
theorem p_5_13 (C : Cx X own cc rm T0 B0 nL0) {a ix : Nat} (hs : S a = (6, 0)) {x : Int32} (hlk : Cond.fieldLink own ix "EvenScatterModel" "told" "I" ∈ wG) (d : decode cc pc = .ok (.putfield ix, 3)) (k : V X kc ks z S (mu I a 13 x) J R (pc + 3) lv st) : V X kc ks z S I J R pc lv (.int x :: .ref a :: st) := v_putG C (ci := 5) (k := 13) (v := .int x) rfl inX5 tyX5_ok nmX5 (sne hs) (cTo_5 hs) (by decide) (Nat.le_of_ble_eq_true rfl) rfl (tyX5_ok 13 (by decide)) rfl rfl hlk d (by rw [cTo_5 hs]; simp [mu]) (fun b hb => cT_congr T0 rfl (mu_ne I x hb) rfl rfl) k
theorem g_5_14 (C : Cx X own cc rm T0 B0 nL0) {a ix : Nat} (hs : S a = (6, 0)) {b : Nat} (hr : R a 14 = some b) (hlk : Cond.fieldLink own ix "EvenScatterModel" "refused" "[I" ∈ wG) (d : decode cc pc = .ok (.getfield ix, 3)) (k : V X kc ks z S I J R (pc + 3) lv (.ref b :: st)) : V X kc ks z S I J R pc lv (.ref a :: st) := v_getG C (ci := 5) (k := 14) (v := .ref b) rfl inX5 (sne hs) (cTo_5 hs) (by decide) (by show some (va_rf (R a 14)) = some (.ref b); rw [hr]; rfl) hlk d k
theorem p_5_14 (C : Cx X own cc rm T0 B0 nL0) (hI : IsInit X) {a ix : Nat} (hs : S a = (6, 0)) {b : Nat} (hlk : Cond.fieldLink own ix "EvenScatterModel" "refused" "[I" ∈ wG) (d : decode cc pc = .ok (.putfield ix, 3)) (hw : own = "EvenScatterModel" := by rfl) (k : V X kc ks z S I J (mu R a 14 (some b)) (pc + 3) lv st) : V X kc ks z S I J R pc lv (.ref b :: .ref a :: st) := v_putF C hI (ci := 5) (k := 14) (v := .ref b) rfl inX5 tyX5_ok nmX5 (sne hs) (cTo_5 hs) (by decide) (Nat.le_of_ble_eq_true rfl) rfl hw.symm (tyX5_ok 14 (by decide)) rfl rfl hlk d (by rw [cTo_5 hs]; simp [mu, va_rf]) (fun b hb => cT_congr T0 rfl rfl rfl (mu_ne R _ hb)) k
theorem g_5_15 (C : Cx X own cc rm T0 B0 nL0) {a ix : Nat} (hs : S a = (6, 0)) {b : Nat} (hr : R a 15 = some b) (hlk : Cond.fieldLink own ix "EvenScatterModel" "numbers" "[J" ∈ wG) (d : decode cc pc = .ok (.getfield ix, 3)) (k : V X kc ks z S I J R (pc + 3) lv (.ref b :: st)) : V X kc ks z S I J R pc lv (.ref a :: st) := v_getG C (ci := 5) (k := 15) (v := .ref b) rfl inX5 (sne hs) (cTo_5 hs) (by decide) (by show some (va_rf (R a 15)) = some (.ref b); rw [hr]; rfl) hlk d k
theorem p_5_15 (C : Cx X own cc rm T0 B0 nL0) (hI : IsInit X) {a ix : Nat} (hs : S a = (6, 0)) {b : Nat} (hlk : Cond.fieldLink own ix "EvenScatterModel" "numbers" "[J" ∈ wG) (d : decode cc pc = .ok (.putfield ix, 3)) (hw : own = "EvenScatterModel" := by rfl) (k : V X kc ks z S I J (mu R a 15 (some b)) (pc + 3) lv st) : V X kc ks z S I J R pc lv (.ref b :: .ref a :: st) := v_putF C hI (ci := 5) (k := 15) (v := .ref b) rfl inX5 tyX5_ok nmX5 (sne hs) (cTo_5 hs) (by decide) (Nat.le_of_ble_eq_true rfl) rfl hw.symm (tyX5_ok 15 (by decide)) rfl rfl hlk d (by rw [cTo_5 hs]; simp [mu, va_rf]) (fun b hb => cT_congr T0 rfl rfl rfl (mu_ne R _ hb)) k
theorem g_5_16 (C : Cx X own cc rm T0 B0 nL0) {a ix : Nat} (hs : S a = (6, 0)) {b : Nat} (hr : R a 16 = some b) (hlk : Cond.fieldLink own ix "EvenScatterModel" "boxes" "[I" ∈ wG) (d : decode cc pc = .ok (.getfield ix, 3)) (k : V X kc ks z S I J R (pc + 3) lv (.ref b :: st)) : V X kc ks z S I J R pc lv (.ref a :: st) := v_getG C (ci := 5) (k := 16) (v := .ref b) rfl inX5 (sne hs) (cTo_5 hs) (by decide) (by show some (va_rf (R a 16)) = some (.ref b); rw [hr]; rfl) hlk d k
theorem p_5_16 (C : Cx X own cc rm T0 B0 nL0) (hI : IsInit X) {a ix : Nat} (hs : S a = (6, 0)) {b : Nat} (hlk : Cond.fieldLink own ix "EvenScatterModel" "boxes" "[I" ∈ wG) (d : decode cc pc = .ok (.putfield ix, 3)) (hw : own = "EvenScatterModel" := by rfl) (k : V X kc ks z S I J (mu R a 16 (some b)) (pc + 3) lv st) : V X kc ks z S I J R pc lv (.ref b :: .ref a :: st) := v_putF C hI (ci := 5) (k := 16) (v := .ref b) rfl inX5 tyX5_ok nmX5 (sne hs) (cTo_5 hs) (by decide) (Nat.le_of_ble_eq_true rfl) rfl hw.symm (tyX5_ok 16 (by decide)) rfl rfl hlk d (by rw [cTo_5 hs]; simp [mu, va_rf]) (fun b hb => cT_congr T0 rfl rfl rfl (mu_ne R _ hb)) k
theorem g_5_17 (C : Cx X own cc rm T0 B0 nL0) {a ix : Nat} (hs : S a = (6, 0)) {b : Nat} (hr : R a 17 = some b) (hlk : Cond.fieldLink own ix "EvenScatterModel" "cuts" "[I" ∈ wG) (d : decode cc pc = .ok (.getfield ix, 3)) (k : V X kc ks z S I J R (pc + 3) lv (.ref b :: st)) : V X kc ks z S I J R pc lv (.ref a :: st) := v_getG C (ci := 5) (k := 17) (v := .ref b) rfl inX5 (sne hs) (cTo_5 hs) (by decide) (by show some (va_rf (R a 17)) = some (.ref b); rw [hr]; rfl) hlk d k
theorem p_5_17 (C : Cx X own cc rm T0 B0 nL0) (hI : IsInit X) {a ix : Nat} (hs : S a = (6, 0)) {b : Nat} (hlk : Cond.fieldLink own ix "EvenScatterModel" "cuts" "[I" ∈ wG) (d : decode cc pc = .ok (.putfield ix, 3)) (hw : own = "EvenScatterModel" := by rfl) (k : V X kc ks z S I J (mu R a 17 (some b)) (pc + 3) lv st) : V X kc ks z S I J R pc lv (.ref b :: .ref a :: st) := v_putF C hI (ci := 5) (k := 17) (v := .ref b) rfl inX5 tyX5_ok nmX5 (sne hs) (cTo_5 hs) (by decide) (Nat.le_of_ble_eq_true rfl) rfl hw.symm (tyX5_ok 17 (by decide)) rfl rfl hlk d (by rw [cTo_5 hs]; simp [mu, va_rf]) (fun b hb => cT_congr T0 rfl rfl rfl (mu_ne R _ hb)) k
theorem g_5_18 (C : Cx X own cc rm T0 B0 nL0) {a ix : Nat} (hs : S a = (6, 0)) {b : Nat} (hr : R a 18 = some b) (hlk : Cond.fieldLink own ix "EvenScatterModel" "freely" "[I" ∈ wG) (d : decode cc pc = .ok (.getfield ix, 3)) (k : V X kc ks z S I J R (pc + 3) lv (.ref b :: st)) : V X kc ks z S I J R pc lv (.ref a :: st) := v_getG C (ci := 5) (k := 18) (v := .ref b) rfl inX5 (sne hs) (cTo_5 hs) (by decide) (by show some (va_rf (R a 18)) = some (.ref b); rw [hr]; rfl) hlk d k
theorem p_5_18 (C : Cx X own cc rm T0 B0 nL0) (hI : IsInit X) {a ix : Nat} (hs : S a = (6, 0)) {b : Nat} (hlk : Cond.fieldLink own ix "EvenScatterModel" "freely" "[I" ∈ wG) (d : decode cc pc = .ok (.putfield ix, 3)) (hw : own = "EvenScatterModel" := by rfl) (k : V X kc ks z S I J (mu R a 18 (some b)) (pc + 3) lv st) : V X kc ks z S I J R pc lv (.ref b :: .ref a :: st) := v_putF C hI (ci := 5) (k := 18) (v := .ref b) rfl inX5 tyX5_ok nmX5 (sne hs) (cTo_5 hs) (by decide) (Nat.le_of_ble_eq_true rfl) rfl hw.symm (tyX5_ok 18 (by decide)) rfl rfl hlk d (by rw [cTo_5 hs]; simp [mu, va_rf]) (fun b hb => cT_congr T0 rfl rfl rfl (mu_ne R _ hb)) k
theorem g_5_19 (C : Cx X own cc rm T0 B0 nL0) {a ix : Nat} (hs : S a = (6, 0)) {b : Nat} (hr : R a 19 = some b) (hlk : Cond.fieldLink own ix "EvenScatterModel" "corner" "[I" ∈ wG) (d : decode cc pc = .ok (.getfield ix, 3)) (k : V X kc ks z S I J R (pc + 3) lv (.ref b :: st)) : V X kc ks z S I J R pc lv (.ref a :: st) := v_getG C (ci := 5) (k := 19) (v := .ref b) rfl inX5 (sne hs) (cTo_5 hs) (by decide) (by show some (va_rf (R a 19)) = some (.ref b); rw [hr]; rfl) hlk d k
theorem p_5_19 (C : Cx X own cc rm T0 B0 nL0) (hI : IsInit X) {a ix : Nat} (hs : S a = (6, 0)) {b : Nat} (hlk : Cond.fieldLink own ix "EvenScatterModel" "corner" "[I" ∈ wG) (d : decode cc pc = .ok (.putfield ix, 3)) (hw : own = "EvenScatterModel" := by rfl) (k : V X kc ks z S I J (mu R a 19 (some b)) (pc + 3) lv st) : V X kc ks z S I J R pc lv (.ref b :: .ref a :: st) := v_putF C hI (ci := 5) (k := 19) (v := .ref b) rfl inX5 tyX5_ok nmX5 (sne hs) (cTo_5 hs) (by decide) (Nat.le_of_ble_eq_true rfl) rfl hw.symm (tyX5_ok 19 (by decide)) rfl rfl hlk d (by rw [cTo_5 hs]; simp [mu, va_rf]) (fun b hb => cT_congr T0 rfl rfl rfl (mu_ne R _ hb)) k
theorem g_5_20 (C : Cx X own cc rm T0 B0 nL0) {a ix : Nat} (hs : S a = (6, 0)) {b : Nat} (hr : R a 20 = some b) (hlk : Cond.fieldLink own ix "EvenScatterModel" "isPart" "[Z" ∈ wG) (d : decode cc pc = .ok (.getfield ix, 3)) (k : V X kc ks z S I J R (pc + 3) lv (.ref b :: st)) : V X kc ks z S I J R pc lv (.ref a :: st) := v_getG C (ci := 5) (k := 20) (v := .ref b) rfl inX5 (sne hs) (cTo_5 hs) (by decide) (by show some (va_rf (R a 20)) = some (.ref b); rw [hr]; rfl) hlk d k
theorem p_5_20 (C : Cx X own cc rm T0 B0 nL0) (hI : IsInit X) {a ix : Nat} (hs : S a = (6, 0)) {b : Nat} (hlk : Cond.fieldLink own ix "EvenScatterModel" "isPart" "[Z" ∈ wG) (d : decode cc pc = .ok (.putfield ix, 3)) (hw : own = "EvenScatterModel" := by rfl) (k : V X kc ks z S I J (mu R a 20 (some b)) (pc + 3) lv st) : V X kc ks z S I J R pc lv (.ref b :: .ref a :: st) := v_putF C hI (ci := 5) (k := 20) (v := .ref b) rfl inX5 tyX5_ok nmX5 (sne hs) (cTo_5 hs) (by decide) (Nat.le_of_ble_eq_true rfl) rfl hw.symm (tyX5_ok 20 (by decide)) rfl rfl hlk d (by rw [cTo_5 hs]; simp [mu, va_rf]) (fun b hb => cT_congr T0 rfl rfl rfl (mu_ne R _ hb)) k
theorem n_5 (C : Cx X own cc rm T0 B0 nL0) {ix : Nat} (hlk : Cond.classLink own ix "EvenScatterModel" ∈ wG) (hc : kc + 1 ≤ rm.cells) (hs : ks + 21 ≤ rm.slots) (d : decode cc pc = .ok (.new ix, 3)) (k : V X (kc + 1) (ks + 21) (z + 1) (su S z 6 0) (mz I z 0) (mz J z 0) (mz R z none) (pc + 3) lv (.ref z :: st)) : V X kc ks z S I J R pc lv st := v_newG C (ci := 5) (N := 21) (fs := [.int 0, .null, .null, .null, .null, .null, .null, .null, .null, .null, .null, .null, .null, .int 0, .null, .null, .null, .null, .null, .null, .null]) rfl inX5 tyX5 tyX5_ok (fun j hj => by rcases (show j = 0 ∨ j = 1 ∨ j = 2 ∨ j = 3 ∨ j = 4 ∨ j = 5 ∨ j = 6 ∨ j = 7 ∨ j = 8 ∨ j = 9 ∨ j = 10 ∨ j = 11 ∨ j = 12 ∨ j = 13 ∨ j = 14 ∨ j = 15 ∨ j = 16 ∨ j = 17 ∨ j = 18 ∨ j = 19 ∨ j = 20 by omega) with rfl | rfl | rfl | rfl | rfl | rfl | rfl | rfl | rfl | rfl | rfl | rfl | rfl | rfl | rfl | rfl | rfl | rfl | rfl | rfl | rfl <;> rfl) hlk wt_527 wt_5 hc hs d (by rw [cTo_5 (su_at S z 6 0)]; simp [mz, va_rf]) k
theorem v_callV0_1 (C : Cx X own cc rm T0 B0 nL0) {y : MethodName} {bytes : ByteArray} {maxL : Nat} {ret : Option FieldType} {rm' : Room} {sp : Sp} (M : Mt T0 B0 y bytes maxL ret 1 rm' sp) {ix : Nat} (lk : LkB own ix y bytes maxL ret 0) (lk2 : Cond.instanceMethod y ∈ wG ∧ Cond.selects y.cls y y ∈ wG) (ci : Nat) {Tn : u_T} {N : Nat} (hcl : vwCl[ci]? = some (y.cls, Tn, N)) (d : decode cc pc = .ok (.invokevirtual ix, 3)) (hroom : rm'.frames + 1 ≤ rm.frames ∧ 8 + (maxL + 11) + rm'.locals ≤ rm.locals) {rest : List Value} (hcat : (rest.map fun v => v.category).sum ≤ 8) (hf : kc + rm'.cells ≤ rm.cells ∧ ks + rm'.slots ≤ rm.slots) {b : Nat} (hb : S b = (ci + 1, 0)) {fs : List Value} (hfs : cT T0 S I J R b = .inr (ci, fs)) (h : sp (.ref b :: []) z S I J R (fun i j r z' S' I' J' R' => V X (kc + rm'.cells) (ks + rm'.slots) z' S' I' J' R' (pc + 3) lv (.int i :: rest))) : V X kc ks z S I J R pc lv (.ref b :: rest) := v_callV C M lk lk2 ci hcl d hroom [] rest rfl rfl hcat hf hb hfs h
theorem v_callV1_0 (C : Cx X own cc rm T0 B0 nL0) {y : MethodName} {bytes : ByteArray} {maxL : Nat} {ret : Option FieldType} {rm' : Room} {sp : Sp} (M : Mt T0 B0 y bytes maxL ret 0 rm' sp) {ix : Nat} (lk : LkB own ix y bytes maxL ret 1) (lk2 : Cond.instanceMethod y ∈ wG ∧ Cond.selects y.cls y y ∈ wG) (ci : Nat) {Tn : u_T} {N : Nat} (hcl : vwCl[ci]? = some (y.cls, Tn, N)) (d : decode cc pc = .ok (.invokevirtual ix, 3)) (hroom : rm'.frames + 1 ≤ rm.frames ∧ 8 + (maxL + 11) + rm'.locals ≤ rm.locals) {rest : List Value} (hcat : (rest.map fun v => v.category).sum ≤ 8) (hf : kc + rm'.cells ≤ rm.cells ∧ ks + rm'.slots ≤ rm.slots) {b : Nat} {x1 : Value} (hb : S b = (ci + 1, 0)) {fs : List Value} (hfs : cT T0 S I J R b = .inr (ci, fs)) (h : sp (.ref b :: [x1]) z S I J R (fun i j r z' S' I' J' R' => V X (kc + rm'.cells) (ks + rm'.slots) z' S' I' J' R' (pc + 3) lv rest)) : V X kc ks z S I J R pc lv (x1 :: .ref b :: rest) := v_callV C M lk lk2 ci hcl d hroom [x1] rest rfl rfl hcat hf hb hfs h
theorem v_callV1_1 (C : Cx X own cc rm T0 B0 nL0) {y : MethodName} {bytes : ByteArray} {maxL : Nat} {ret : Option FieldType} {rm' : Room} {sp : Sp} (M : Mt T0 B0 y bytes maxL ret 1 rm' sp) {ix : Nat} (lk : LkB own ix y bytes maxL ret 1) (lk2 : Cond.instanceMethod y ∈ wG ∧ Cond.selects y.cls y y ∈ wG) (ci : Nat) {Tn : u_T} {N : Nat} (hcl : vwCl[ci]? = some (y.cls, Tn, N)) (d : decode cc pc = .ok (.invokevirtual ix, 3)) (hroom : rm'.frames + 1 ≤ rm.frames ∧ 8 + (maxL + 11) + rm'.locals ≤ rm.locals) {rest : List Value} (hcat : (rest.map fun v => v.category).sum ≤ 8) (hf : kc + rm'.cells ≤ rm.cells ∧ ks + rm'.slots ≤ rm.slots) {b : Nat} {x1 : Value} (hb : S b = (ci + 1, 0)) {fs : List Value} (hfs : cT T0 S I J R b = .inr (ci, fs)) (h : sp (.ref b :: [x1]) z S I J R (fun i j r z' S' I' J' R' => V X (kc + rm'.cells) (ks + rm'.slots) z' S' I' J' R' (pc + 3) lv (.int i :: rest))) : V X kc ks z S I J R pc lv (x1 :: .ref b :: rest) := v_callV C M lk lk2 ci hcl d hroom [x1] rest rfl rfl hcat hf hb hfs h
theorem v_callV1_2 (C : Cx X own cc rm T0 B0 nL0) {y : MethodName} {bytes : ByteArray} {maxL : Nat} {ret : Option FieldType} {rm' : Room} {sp : Sp} (M : Mt T0 B0 y bytes maxL ret 2 rm' sp) {ix : Nat} (lk : LkB own ix y bytes maxL ret 1) (lk2 : Cond.instanceMethod y ∈ wG ∧ Cond.selects y.cls y y ∈ wG) (ci : Nat) {Tn : u_T} {N : Nat} (hcl : vwCl[ci]? = some (y.cls, Tn, N)) (d : decode cc pc = .ok (.invokevirtual ix, 3)) (hroom : rm'.frames + 1 ≤ rm.frames ∧ 8 + (maxL + 11) + rm'.locals ≤ rm.locals) {rest : List Value} (hcat : (rest.map fun v => v.category).sum ≤ 8) (hf : kc + rm'.cells ≤ rm.cells ∧ ks + rm'.slots ≤ rm.slots) {b : Nat} {x1 : Value} (hb : S b = (ci + 1, 0)) {fs : List Value} (hfs : cT T0 S I J R b = .inr (ci, fs)) (h : sp (.ref b :: [x1]) z S I J R (fun i j r z' S' I' J' R' => V X (kc + rm'.cells) (ks + rm'.slots) z' S' I' J' R' (pc + 3) lv (.long j :: rest))) : V X kc ks z S I J R pc lv (x1 :: .ref b :: rest) := v_callV C M lk lk2 ci hcl d hroom [x1] rest rfl rfl hcat hf hb hfs h
theorem v_callV1_3 (C : Cx X own cc rm T0 B0 nL0) {y : MethodName} {bytes : ByteArray} {maxL : Nat} {ret : Option FieldType} {rm' : Room} {sp : Sp} (M : Mt T0 B0 y bytes maxL ret 3 rm' sp) {ix : Nat} (lk : LkB own ix y bytes maxL ret 1) (lk2 : Cond.instanceMethod y ∈ wG ∧ Cond.selects y.cls y y ∈ wG) (ci : Nat) {Tn : u_T} {N : Nat} (hcl : vwCl[ci]? = some (y.cls, Tn, N)) (d : decode cc pc = .ok (.invokevirtual ix, 3)) (hroom : rm'.frames + 1 ≤ rm.frames ∧ 8 + (maxL + 11) + rm'.locals ≤ rm.locals) {rest : List Value} (hcat : (rest.map fun v => v.category).sum ≤ 8) (hf : kc + rm'.cells ≤ rm.cells ∧ ks + rm'.slots ≤ rm.slots) {b : Nat} {x1 : Value} (hb : S b = (ci + 1, 0)) {fs : List Value} (hfs : cT T0 S I J R b = .inr (ci, fs)) (h : sp (.ref b :: [x1]) z S I J R (fun i j r z' S' I' J' R' => V X (kc + rm'.cells) (ks + rm'.slots) z' S' I' J' R' (pc + 3) lv (va_rf r :: rest))) : V X kc ks z S I J R pc lv (x1 :: .ref b :: rest) := v_callV C M lk lk2 ci hcl d hroom [x1] rest rfl rfl hcat hf hb hfs h
theorem v_callV2_0 (C : Cx X own cc rm T0 B0 nL0) {y : MethodName} {bytes : ByteArray} {maxL : Nat} {ret : Option FieldType} {rm' : Room} {sp : Sp} (M : Mt T0 B0 y bytes maxL ret 0 rm' sp) {ix : Nat} (lk : LkB own ix y bytes maxL ret 2) (lk2 : Cond.instanceMethod y ∈ wG ∧ Cond.selects y.cls y y ∈ wG) (ci : Nat) {Tn : u_T} {N : Nat} (hcl : vwCl[ci]? = some (y.cls, Tn, N)) (d : decode cc pc = .ok (.invokevirtual ix, 3)) (hroom : rm'.frames + 1 ≤ rm.frames ∧ 8 + (maxL + 11) + rm'.locals ≤ rm.locals) {rest : List Value} (hcat : (rest.map fun v => v.category).sum ≤ 8) (hf : kc + rm'.cells ≤ rm.cells ∧ ks + rm'.slots ≤ rm.slots) {b : Nat} {x1 x2 : Value} (hb : S b = (ci + 1, 0)) {fs : List Value} (hfs : cT T0 S I J R b = .inr (ci, fs)) (h : sp (.ref b :: [x1, x2]) z S I J R (fun i j r z' S' I' J' R' => V X (kc + rm'.cells) (ks + rm'.slots) z' S' I' J' R' (pc + 3) lv rest)) : V X kc ks z S I J R pc lv (x2 :: x1 :: .ref b :: rest) := v_callV C M lk lk2 ci hcl d hroom [x1, x2] rest rfl rfl hcat hf hb hfs h
theorem v_callV2_1 (C : Cx X own cc rm T0 B0 nL0) {y : MethodName} {bytes : ByteArray} {maxL : Nat} {ret : Option FieldType} {rm' : Room} {sp : Sp} (M : Mt T0 B0 y bytes maxL ret 1 rm' sp) {ix : Nat} (lk : LkB own ix y bytes maxL ret 2) (lk2 : Cond.instanceMethod y ∈ wG ∧ Cond.selects y.cls y y ∈ wG) (ci : Nat) {Tn : u_T} {N : Nat} (hcl : vwCl[ci]? = some (y.cls, Tn, N)) (d : decode cc pc = .ok (.invokevirtual ix, 3)) (hroom : rm'.frames + 1 ≤ rm.frames ∧ 8 + (maxL + 11) + rm'.locals ≤ rm.locals) {rest : List Value} (hcat : (rest.map fun v => v.category).sum ≤ 8) (hf : kc + rm'.cells ≤ rm.cells ∧ ks + rm'.slots ≤ rm.slots) {b : Nat} {x1 x2 : Value} (hb : S b = (ci + 1, 0)) {fs : List Value} (hfs : cT T0 S I J R b = .inr (ci, fs)) (h : sp (.ref b :: [x1, x2]) z S I J R (fun i j r z' S' I' J' R' => V X (kc + rm'.cells) (ks + rm'.slots) z' S' I' J' R' (pc + 3) lv (.int i :: rest))) : V X kc ks z S I J R pc lv (x2 :: x1 :: .ref b :: rest) := v_callV C M lk lk2 ci hcl d hroom [x1, x2] rest rfl rfl hcat hf hb hfs h
theorem v_callV2_2 (C : Cx X own cc rm T0 B0 nL0) {y : MethodName} {bytes : ByteArray} {maxL : Nat} {ret : Option FieldType} {rm' : Room} {sp : Sp} (M : Mt T0 B0 y bytes maxL ret 2 rm' sp) {ix : Nat} (lk : LkB own ix y bytes maxL ret 2) (lk2 : Cond.instanceMethod y ∈ wG ∧ Cond.selects y.cls y y ∈ wG) (ci : Nat) {Tn : u_T} {N : Nat} (hcl : vwCl[ci]? = some (y.cls, Tn, N)) (d : decode cc pc = .ok (.invokevirtual ix, 3)) (hroom : rm'.frames + 1 ≤ rm.frames ∧ 8 + (maxL + 11) + rm'.locals ≤ rm.locals) {rest : List Value} (hcat : (rest.map fun v => v.category).sum ≤ 8) (hf : kc + rm'.cells ≤ rm.cells ∧ ks + rm'.slots ≤ rm.slots) {b : Nat} {x1 x2 : Value} (hb : S b = (ci + 1, 0)) {fs : List Value} (hfs : cT T0 S I J R b = .inr (ci, fs)) (h : sp (.ref b :: [x1, x2]) z S I J R (fun i j r z' S' I' J' R' => V X (kc + rm'.cells) (ks + rm'.slots) z' S' I' J' R' (pc + 3) lv (.long j :: rest))) : V X kc ks z S I J R pc lv (x2 :: x1 :: .ref b :: rest) := v_callV C M lk lk2 ci hcl d hroom [x1, x2] rest rfl rfl hcat hf hb hfs h
theorem v_callV3_0 (C : Cx X own cc rm T0 B0 nL0) {y : MethodName} {bytes : ByteArray} {maxL : Nat} {ret : Option FieldType} {rm' : Room} {sp : Sp} (M : Mt T0 B0 y bytes maxL ret 0 rm' sp) {ix : Nat} (lk : LkB own ix y bytes maxL ret 3) (lk2 : Cond.instanceMethod y ∈ wG ∧ Cond.selects y.cls y y ∈ wG) (ci : Nat) {Tn : u_T} {N : Nat} (hcl : vwCl[ci]? = some (y.cls, Tn, N)) (d : decode cc pc = .ok (.invokevirtual ix, 3)) (hroom : rm'.frames + 1 ≤ rm.frames ∧ 8 + (maxL + 11) + rm'.locals ≤ rm.locals) {rest : List Value} (hcat : (rest.map fun v => v.category).sum ≤ 8) (hf : kc + rm'.cells ≤ rm.cells ∧ ks + rm'.slots ≤ rm.slots) {b : Nat} {x1 x2 x3 : Value} (hb : S b = (ci + 1, 0)) {fs : List Value} (hfs : cT T0 S I J R b = .inr (ci, fs)) (h : sp (.ref b :: [x1, x2, x3]) z S I J R (fun i j r z' S' I' J' R' => V X (kc + rm'.cells) (ks + rm'.slots) z' S' I' J' R' (pc + 3) lv rest)) : V X kc ks z S I J R pc lv (x3 :: x2 :: x1 :: .ref b :: rest) := v_callV C M lk lk2 ci hcl d hroom [x1, x2, x3] rest rfl rfl hcat hf hb hfs h
theorem v_callV3_1 (C : Cx X own cc rm T0 B0 nL0) {y : MethodName} {bytes : ByteArray} {maxL : Nat} {ret : Option FieldType} {rm' : Room} {sp : Sp} (M : Mt T0 B0 y bytes maxL ret 1 rm' sp) {ix : Nat} (lk : LkB own ix y bytes maxL ret 3) (lk2 : Cond.instanceMethod y ∈ wG ∧ Cond.selects y.cls y y ∈ wG) (ci : Nat) {Tn : u_T} {N : Nat} (hcl : vwCl[ci]? = some (y.cls, Tn, N)) (d : decode cc pc = .ok (.invokevirtual ix, 3)) (hroom : rm'.frames + 1 ≤ rm.frames ∧ 8 + (maxL + 11) + rm'.locals ≤ rm.locals) {rest : List Value} (hcat : (rest.map fun v => v.category).sum ≤ 8) (hf : kc + rm'.cells ≤ rm.cells ∧ ks + rm'.slots ≤ rm.slots) {b : Nat} {x1 x2 x3 : Value} (hb : S b = (ci + 1, 0)) {fs : List Value} (hfs : cT T0 S I J R b = .inr (ci, fs)) (h : sp (.ref b :: [x1, x2, x3]) z S I J R (fun i j r z' S' I' J' R' => V X (kc + rm'.cells) (ks + rm'.slots) z' S' I' J' R' (pc + 3) lv (.int i :: rest))) : V X kc ks z S I J R pc lv (x3 :: x2 :: x1 :: .ref b :: rest) := v_callV C M lk lk2 ci hcl d hroom [x1, x2, x3] rest rfl rfl hcat hf hb hfs h
theorem v_callV3_2 (C : Cx X own cc rm T0 B0 nL0) {y : MethodName} {bytes : ByteArray} {maxL : Nat} {ret : Option FieldType} {rm' : Room} {sp : Sp} (M : Mt T0 B0 y bytes maxL ret 2 rm' sp) {ix : Nat} (lk : LkB own ix y bytes maxL ret 3) (lk2 : Cond.instanceMethod y ∈ wG ∧ Cond.selects y.cls y y ∈ wG) (ci : Nat) {Tn : u_T} {N : Nat} (hcl : vwCl[ci]? = some (y.cls, Tn, N)) (d : decode cc pc = .ok (.invokevirtual ix, 3)) (hroom : rm'.frames + 1 ≤ rm.frames ∧ 8 + (maxL + 11) + rm'.locals ≤ rm.locals) {rest : List Value} (hcat : (rest.map fun v => v.category).sum ≤ 8) (hf : kc + rm'.cells ≤ rm.cells ∧ ks + rm'.slots ≤ rm.slots) {b : Nat} {x1 x2 x3 : Value} (hb : S b = (ci + 1, 0)) {fs : List Value} (hfs : cT T0 S I J R b = .inr (ci, fs)) (h : sp (.ref b :: [x1, x2, x3]) z S I J R (fun i j r z' S' I' J' R' => V X (kc + rm'.cells) (ks + rm'.slots) z' S' I' J' R' (pc + 3) lv (.long j :: rest))) : V X kc ks z S I J R pc lv (x3 :: x2 :: x1 :: .ref b :: rest) := v_callV C M lk lk2 ci hcl d hroom [x1, x2, x3] rest rfl rfl hcat hf hb hfs h
theorem v_callV4_1 (C : Cx X own cc rm T0 B0 nL0) {y : MethodName} {bytes : ByteArray} {maxL : Nat} {ret : Option FieldType} {rm' : Room} {sp : Sp} (M : Mt T0 B0 y bytes maxL ret 1 rm' sp) {ix : Nat} (lk : LkB own ix y bytes maxL ret 4) (lk2 : Cond.instanceMethod y ∈ wG ∧ Cond.selects y.cls y y ∈ wG) (ci : Nat) {Tn : u_T} {N : Nat} (hcl : vwCl[ci]? = some (y.cls, Tn, N)) (d : decode cc pc = .ok (.invokevirtual ix, 3)) (hroom : rm'.frames + 1 ≤ rm.frames ∧ 8 + (maxL + 11) + rm'.locals ≤ rm.locals) {rest : List Value} (hcat : (rest.map fun v => v.category).sum ≤ 8) (hf : kc + rm'.cells ≤ rm.cells ∧ ks + rm'.slots ≤ rm.slots) {b : Nat} {x1 x2 x3 x4 : Value} (hb : S b = (ci + 1, 0)) {fs : List Value} (hfs : cT T0 S I J R b = .inr (ci, fs)) (h : sp (.ref b :: [x1, x2, x3, x4]) z S I J R (fun i j r z' S' I' J' R' => V X (kc + rm'.cells) (ks + rm'.slots) z' S' I' J' R' (pc + 3) lv (.int i :: rest))) : V X kc ks z S I J R pc lv (x4 :: x3 :: x2 :: x1 :: .ref b :: rest) := v_callV C M lk lk2 ci hcl d hroom [x1, x2, x3, x4] rest rfl rfl hcat hf hb hfs h
theorem v_callS1_1 (C : Cx X own cc rm T0 B0 nL0) {y : MethodName} {bytes : ByteArray} {maxL : Nat} {ret : Option FieldType} {rm' : Room} {sp : Sp} (M : Mt T0 B0 y bytes maxL ret 1 rm' sp) {ix : Nat} (lk : LkB own ix y bytes maxL ret 1) (lk2 : Cond.static y ∈ wG) (d : decode cc pc = .ok (.invokestatic ix, 3)) (hroom : rm'.frames + 1 ≤ rm.frames ∧ 8 + (maxL + 11) + rm'.locals ≤ rm.locals) {rest : List Value} (hcat : (rest.map fun v => v.category).sum ≤ 8) (hf : kc + rm'.cells ≤ rm.cells ∧ ks + rm'.slots ≤ rm.slots) {x1 : Value} (h : sp [x1] z S I J R (fun i j r z' S' I' J' R' => V X (kc + rm'.cells) (ks + rm'.slots) z' S' I' J' R' (pc + 3) lv (.int i :: rest))) : V X kc ks z S I J R pc lv (x1 :: rest) := v_callS C M lk lk2 d hroom [x1] rest rfl rfl hcat hf h
theorem v_callSN1_1 (C : Cx X own cc rm T0 B0 nL0) {y : MethodName} {bytes : ByteArray} {maxL : Nat} {ret : Option FieldType} {rm' : Room} {sp : Sp} (M : Mt T0 B0 y bytes maxL ret 1 rm' sp) {ix : Nat} {host : String} (hn : ∀ U, Kx T0 U → va_Nw (.methodLinkNest own ix y host) U) (lk : LkN y bytes maxL ret 1) (lk2 : Cond.static y ∈ wG) (d : decode cc pc = .ok (.invokestatic ix, 3)) (hroom : rm'.frames + 1 ≤ rm.frames ∧ 8 + (maxL + 11) + rm'.locals ≤ rm.locals) {rest : List Value} (hcat : (rest.map fun v => v.category).sum ≤ 8) (hf : kc + rm'.cells ≤ rm.cells ∧ ks + rm'.slots ≤ rm.slots) {x1 : Value} (h : sp [x1] z S I J R (fun i j r z' S' I' J' R' => V X (kc + rm'.cells) (ks + rm'.slots) z' S' I' J' R' (pc + 3) lv (.int i :: rest))) : V X kc ks z S I J R pc lv (x1 :: rest) := v_callSN C M hn lk lk2 d hroom [x1] rest rfl rfl hcat hf h
theorem v_callS1_2 (C : Cx X own cc rm T0 B0 nL0) {y : MethodName} {bytes : ByteArray} {maxL : Nat} {ret : Option FieldType} {rm' : Room} {sp : Sp} (M : Mt T0 B0 y bytes maxL ret 2 rm' sp) {ix : Nat} (lk : LkB own ix y bytes maxL ret 1) (lk2 : Cond.static y ∈ wG) (d : decode cc pc = .ok (.invokestatic ix, 3)) (hroom : rm'.frames + 1 ≤ rm.frames ∧ 8 + (maxL + 11) + rm'.locals ≤ rm.locals) {rest : List Value} (hcat : (rest.map fun v => v.category).sum ≤ 8) (hf : kc + rm'.cells ≤ rm.cells ∧ ks + rm'.slots ≤ rm.slots) {x1 : Value} (h : sp [x1] z S I J R (fun i j r z' S' I' J' R' => V X (kc + rm'.cells) (ks + rm'.slots) z' S' I' J' R' (pc + 3) lv (.long j :: rest))) : V X kc ks z S I J R pc lv (x1 :: rest) := v_callS C M lk lk2 d hroom [x1] rest rfl rfl hcat hf h
theorem v_callSN1_2 (C : Cx X own cc rm T0 B0 nL0) {y : MethodName} {bytes : ByteArray} {maxL : Nat} {ret : Option FieldType} {rm' : Room} {sp : Sp} (M : Mt T0 B0 y bytes maxL ret 2 rm' sp) {ix : Nat} {host : String} (hn : ∀ U, Kx T0 U → va_Nw (.methodLinkNest own ix y host) U) (lk : LkN y bytes maxL ret 1) (lk2 : Cond.static y ∈ wG) (d : decode cc pc = .ok (.invokestatic ix, 3)) (hroom : rm'.frames + 1 ≤ rm.frames ∧ 8 + (maxL + 11) + rm'.locals ≤ rm.locals) {rest : List Value} (hcat : (rest.map fun v => v.category).sum ≤ 8) (hf : kc + rm'.cells ≤ rm.cells ∧ ks + rm'.slots ≤ rm.slots) {x1 : Value} (h : sp [x1] z S I J R (fun i j r z' S' I' J' R' => V X (kc + rm'.cells) (ks + rm'.slots) z' S' I' J' R' (pc + 3) lv (.long j :: rest))) : V X kc ks z S I J R pc lv (x1 :: rest) := v_callSN C M hn lk lk2 d hroom [x1] rest rfl rfl hcat hf h
theorem v_callS2_0 (C : Cx X own cc rm T0 B0 nL0) {y : MethodName} {bytes : ByteArray} {maxL : Nat} {ret : Option FieldType} {rm' : Room} {sp : Sp} (M : Mt T0 B0 y bytes maxL ret 0 rm' sp) {ix : Nat} (lk : LkB own ix y bytes maxL ret 2) (lk2 : Cond.static y ∈ wG) (d : decode cc pc = .ok (.invokestatic ix, 3)) (hroom : rm'.frames + 1 ≤ rm.frames ∧ 8 + (maxL + 11) + rm'.locals ≤ rm.locals) {rest : List Value} (hcat : (rest.map fun v => v.category).sum ≤ 8) (hf : kc + rm'.cells ≤ rm.cells ∧ ks + rm'.slots ≤ rm.slots) {x1 x2 : Value} (h : sp [x1, x2] z S I J R (fun i j r z' S' I' J' R' => V X (kc + rm'.cells) (ks + rm'.slots) z' S' I' J' R' (pc + 3) lv rest)) : V X kc ks z S I J R pc lv (x2 :: x1 :: rest) := v_callS C M lk lk2 d hroom [x1, x2] rest rfl rfl hcat hf h
theorem v_callSN2_0 (C : Cx X own cc rm T0 B0 nL0) {y : MethodName} {bytes : ByteArray} {maxL : Nat} {ret : Option FieldType} {rm' : Room} {sp : Sp} (M : Mt T0 B0 y bytes maxL ret 0 rm' sp) {ix : Nat} {host : String} (hn : ∀ U, Kx T0 U → va_Nw (.methodLinkNest own ix y host) U) (lk : LkN y bytes maxL ret 2) (lk2 : Cond.static y ∈ wG) (d : decode cc pc = .ok (.invokestatic ix, 3)) (hroom : rm'.frames + 1 ≤ rm.frames ∧ 8 + (maxL + 11) + rm'.locals ≤ rm.locals) {rest : List Value} (hcat : (rest.map fun v => v.category).sum ≤ 8) (hf : kc + rm'.cells ≤ rm.cells ∧ ks + rm'.slots ≤ rm.slots) {x1 x2 : Value} (h : sp [x1, x2] z S I J R (fun i j r z' S' I' J' R' => V X (kc + rm'.cells) (ks + rm'.slots) z' S' I' J' R' (pc + 3) lv rest)) : V X kc ks z S I J R pc lv (x2 :: x1 :: rest) := v_callSN C M hn lk lk2 d hroom [x1, x2] rest rfl rfl hcat hf h
theorem v_callS2_1 (C : Cx X own cc rm T0 B0 nL0) {y : MethodName} {bytes : ByteArray} {maxL : Nat} {ret : Option FieldType} {rm' : Room} {sp : Sp} (M : Mt T0 B0 y bytes maxL ret 1 rm' sp) {ix : Nat} (lk : LkB own ix y bytes maxL ret 2) (lk2 : Cond.static y ∈ wG) (d : decode cc pc = .ok (.invokestatic ix, 3)) (hroom : rm'.frames + 1 ≤ rm.frames ∧ 8 + (maxL + 11) + rm'.locals ≤ rm.locals) {rest : List Value} (hcat : (rest.map fun v => v.category).sum ≤ 8) (hf : kc + rm'.cells ≤ rm.cells ∧ ks + rm'.slots ≤ rm.slots) {x1 x2 : Value} (h : sp [x1, x2] z S I J R (fun i j r z' S' I' J' R' => V X (kc + rm'.cells) (ks + rm'.slots) z' S' I' J' R' (pc + 3) lv (.int i :: rest))) : V X kc ks z S I J R pc lv (x2 :: x1 :: rest) := v_callS C M lk lk2 d hroom [x1, x2] rest rfl rfl hcat hf h
theorem v_callSN2_1 (C : Cx X own cc rm T0 B0 nL0) {y : MethodName} {bytes : ByteArray} {maxL : Nat} {ret : Option FieldType} {rm' : Room} {sp : Sp} (M : Mt T0 B0 y bytes maxL ret 1 rm' sp) {ix : Nat} {host : String} (hn : ∀ U, Kx T0 U → va_Nw (.methodLinkNest own ix y host) U) (lk : LkN y bytes maxL ret 2) (lk2 : Cond.static y ∈ wG) (d : decode cc pc = .ok (.invokestatic ix, 3)) (hroom : rm'.frames + 1 ≤ rm.frames ∧ 8 + (maxL + 11) + rm'.locals ≤ rm.locals) {rest : List Value} (hcat : (rest.map fun v => v.category).sum ≤ 8) (hf : kc + rm'.cells ≤ rm.cells ∧ ks + rm'.slots ≤ rm.slots) {x1 x2 : Value} (h : sp [x1, x2] z S I J R (fun i j r z' S' I' J' R' => V X (kc + rm'.cells) (ks + rm'.slots) z' S' I' J' R' (pc + 3) lv (.int i :: rest))) : V X kc ks z S I J R pc lv (x2 :: x1 :: rest) := v_callSN C M hn lk lk2 d hroom [x1, x2] rest rfl rfl hcat hf h
theorem v_callS2_2 (C : Cx X own cc rm T0 B0 nL0) {y : MethodName} {bytes : ByteArray} {maxL : Nat} {ret : Option FieldType} {rm' : Room} {sp : Sp} (M : Mt T0 B0 y bytes maxL ret 2 rm' sp) {ix : Nat} (lk : LkB own ix y bytes maxL ret 2) (lk2 : Cond.static y ∈ wG) (d : decode cc pc = .ok (.invokestatic ix, 3)) (hroom : rm'.frames + 1 ≤ rm.frames ∧ 8 + (maxL + 11) + rm'.locals ≤ rm.locals) {rest : List Value} (hcat : (rest.map fun v => v.category).sum ≤ 8) (hf : kc + rm'.cells ≤ rm.cells ∧ ks + rm'.slots ≤ rm.slots) {x1 x2 : Value} (h : sp [x1, x2] z S I J R (fun i j r z' S' I' J' R' => V X (kc + rm'.cells) (ks + rm'.slots) z' S' I' J' R' (pc + 3) lv (.long j :: rest))) : V X kc ks z S I J R pc lv (x2 :: x1 :: rest) := v_callS C M lk lk2 d hroom [x1, x2] rest rfl rfl hcat hf h
theorem v_callSN2_2 (C : Cx X own cc rm T0 B0 nL0) {y : MethodName} {bytes : ByteArray} {maxL : Nat} {ret : Option FieldType} {rm' : Room} {sp : Sp} (M : Mt T0 B0 y bytes maxL ret 2 rm' sp) {ix : Nat} {host : String} (hn : ∀ U, Kx T0 U → va_Nw (.methodLinkNest own ix y host) U) (lk : LkN y bytes maxL ret 2) (lk2 : Cond.static y ∈ wG) (d : decode cc pc = .ok (.invokestatic ix, 3)) (hroom : rm'.frames + 1 ≤ rm.frames ∧ 8 + (maxL + 11) + rm'.locals ≤ rm.locals) {rest : List Value} (hcat : (rest.map fun v => v.category).sum ≤ 8) (hf : kc + rm'.cells ≤ rm.cells ∧ ks + rm'.slots ≤ rm.slots) {x1 x2 : Value} (h : sp [x1, x2] z S I J R (fun i j r z' S' I' J' R' => V X (kc + rm'.cells) (ks + rm'.slots) z' S' I' J' R' (pc + 3) lv (.long j :: rest))) : V X kc ks z S I J R pc lv (x2 :: x1 :: rest) := v_callSN C M hn lk lk2 d hroom [x1, x2] rest rfl rfl hcat hf h
theorem v_callS3_0 (C : Cx X own cc rm T0 B0 nL0) {y : MethodName} {bytes : ByteArray} {maxL : Nat} {ret : Option FieldType} {rm' : Room} {sp : Sp} (M : Mt T0 B0 y bytes maxL ret 0 rm' sp) {ix : Nat} (lk : LkB own ix y bytes maxL ret 3) (lk2 : Cond.static y ∈ wG) (d : decode cc pc = .ok (.invokestatic ix, 3)) (hroom : rm'.frames + 1 ≤ rm.frames ∧ 8 + (maxL + 11) + rm'.locals ≤ rm.locals) {rest : List Value} (hcat : (rest.map fun v => v.category).sum ≤ 8) (hf : kc + rm'.cells ≤ rm.cells ∧ ks + rm'.slots ≤ rm.slots) {x1 x2 x3 : Value} (h : sp [x1, x2, x3] z S I J R (fun i j r z' S' I' J' R' => V X (kc + rm'.cells) (ks + rm'.slots) z' S' I' J' R' (pc + 3) lv rest)) : V X kc ks z S I J R pc lv (x3 :: x2 :: x1 :: rest) := v_callS C M lk lk2 d hroom [x1, x2, x3] rest rfl rfl hcat hf h
theorem v_callSN3_0 (C : Cx X own cc rm T0 B0 nL0) {y : MethodName} {bytes : ByteArray} {maxL : Nat} {ret : Option FieldType} {rm' : Room} {sp : Sp} (M : Mt T0 B0 y bytes maxL ret 0 rm' sp) {ix : Nat} {host : String} (hn : ∀ U, Kx T0 U → va_Nw (.methodLinkNest own ix y host) U) (lk : LkN y bytes maxL ret 3) (lk2 : Cond.static y ∈ wG) (d : decode cc pc = .ok (.invokestatic ix, 3)) (hroom : rm'.frames + 1 ≤ rm.frames ∧ 8 + (maxL + 11) + rm'.locals ≤ rm.locals) {rest : List Value} (hcat : (rest.map fun v => v.category).sum ≤ 8) (hf : kc + rm'.cells ≤ rm.cells ∧ ks + rm'.slots ≤ rm.slots) {x1 x2 x3 : Value} (h : sp [x1, x2, x3] z S I J R (fun i j r z' S' I' J' R' => V X (kc + rm'.cells) (ks + rm'.slots) z' S' I' J' R' (pc + 3) lv rest)) : V X kc ks z S I J R pc lv (x3 :: x2 :: x1 :: rest) := v_callSN C M hn lk lk2 d hroom [x1, x2, x3] rest rfl rfl hcat hf h
theorem v_callS3_1 (C : Cx X own cc rm T0 B0 nL0) {y : MethodName} {bytes : ByteArray} {maxL : Nat} {ret : Option FieldType} {rm' : Room} {sp : Sp} (M : Mt T0 B0 y bytes maxL ret 1 rm' sp) {ix : Nat} (lk : LkB own ix y bytes maxL ret 3) (lk2 : Cond.static y ∈ wG) (d : decode cc pc = .ok (.invokestatic ix, 3)) (hroom : rm'.frames + 1 ≤ rm.frames ∧ 8 + (maxL + 11) + rm'.locals ≤ rm.locals) {rest : List Value} (hcat : (rest.map fun v => v.category).sum ≤ 8) (hf : kc + rm'.cells ≤ rm.cells ∧ ks + rm'.slots ≤ rm.slots) {x1 x2 x3 : Value} (h : sp [x1, x2, x3] z S I J R (fun i j r z' S' I' J' R' => V X (kc + rm'.cells) (ks + rm'.slots) z' S' I' J' R' (pc + 3) lv (.int i :: rest))) : V X kc ks z S I J R pc lv (x3 :: x2 :: x1 :: rest) := v_callS C M lk lk2 d hroom [x1, x2, x3] rest rfl rfl hcat hf h
theorem v_callSN3_1 (C : Cx X own cc rm T0 B0 nL0) {y : MethodName} {bytes : ByteArray} {maxL : Nat} {ret : Option FieldType} {rm' : Room} {sp : Sp} (M : Mt T0 B0 y bytes maxL ret 1 rm' sp) {ix : Nat} {host : String} (hn : ∀ U, Kx T0 U → va_Nw (.methodLinkNest own ix y host) U) (lk : LkN y bytes maxL ret 3) (lk2 : Cond.static y ∈ wG) (d : decode cc pc = .ok (.invokestatic ix, 3)) (hroom : rm'.frames + 1 ≤ rm.frames ∧ 8 + (maxL + 11) + rm'.locals ≤ rm.locals) {rest : List Value} (hcat : (rest.map fun v => v.category).sum ≤ 8) (hf : kc + rm'.cells ≤ rm.cells ∧ ks + rm'.slots ≤ rm.slots) {x1 x2 x3 : Value} (h : sp [x1, x2, x3] z S I J R (fun i j r z' S' I' J' R' => V X (kc + rm'.cells) (ks + rm'.slots) z' S' I' J' R' (pc + 3) lv (.int i :: rest))) : V X kc ks z S I J R pc lv (x3 :: x2 :: x1 :: rest) := v_callSN C M hn lk lk2 d hroom [x1, x2, x3] rest rfl rfl hcat hf h
theorem v_callS3_2 (C : Cx X own cc rm T0 B0 nL0) {y : MethodName} {bytes : ByteArray} {maxL : Nat} {ret : Option FieldType} {rm' : Room} {sp : Sp} (M : Mt T0 B0 y bytes maxL ret 2 rm' sp) {ix : Nat} (lk : LkB own ix y bytes maxL ret 3) (lk2 : Cond.static y ∈ wG) (d : decode cc pc = .ok (.invokestatic ix, 3)) (hroom : rm'.frames + 1 ≤ rm.frames ∧ 8 + (maxL + 11) + rm'.locals ≤ rm.locals) {rest : List Value} (hcat : (rest.map fun v => v.category).sum ≤ 8) (hf : kc + rm'.cells ≤ rm.cells ∧ ks + rm'.slots ≤ rm.slots) {x1 x2 x3 : Value} (h : sp [x1, x2, x3] z S I J R (fun i j r z' S' I' J' R' => V X (kc + rm'.cells) (ks + rm'.slots) z' S' I' J' R' (pc + 3) lv (.long j :: rest))) : V X kc ks z S I J R pc lv (x3 :: x2 :: x1 :: rest) := v_callS C M lk lk2 d hroom [x1, x2, x3] rest rfl rfl hcat hf h
theorem v_callSN3_2 (C : Cx X own cc rm T0 B0 nL0) {y : MethodName} {bytes : ByteArray} {maxL : Nat} {ret : Option FieldType} {rm' : Room} {sp : Sp} (M : Mt T0 B0 y bytes maxL ret 2 rm' sp) {ix : Nat} {host : String} (hn : ∀ U, Kx T0 U → va_Nw (.methodLinkNest own ix y host) U) (lk : LkN y bytes maxL ret 3) (lk2 : Cond.static y ∈ wG) (d : decode cc pc = .ok (.invokestatic ix, 3)) (hroom : rm'.frames + 1 ≤ rm.frames ∧ 8 + (maxL + 11) + rm'.locals ≤ rm.locals) {rest : List Value} (hcat : (rest.map fun v => v.category).sum ≤ 8) (hf : kc + rm'.cells ≤ rm.cells ∧ ks + rm'.slots ≤ rm.slots) {x1 x2 x3 : Value} (h : sp [x1, x2, x3] z S I J R (fun i j r z' S' I' J' R' => V X (kc + rm'.cells) (ks + rm'.slots) z' S' I' J' R' (pc + 3) lv (.long j :: rest))) : V X kc ks z S I J R pc lv (x3 :: x2 :: x1 :: rest) := v_callSN C M hn lk lk2 d hroom [x1, x2, x3] rest rfl rfl hcat hf h
theorem v_callS3_3 (C : Cx X own cc rm T0 B0 nL0) {y : MethodName} {bytes : ByteArray} {maxL : Nat} {ret : Option FieldType} {rm' : Room} {sp : Sp} (M : Mt T0 B0 y bytes maxL ret 3 rm' sp) {ix : Nat} (lk : LkB own ix y bytes maxL ret 3) (lk2 : Cond.static y ∈ wG) (d : decode cc pc = .ok (.invokestatic ix, 3)) (hroom : rm'.frames + 1 ≤ rm.frames ∧ 8 + (maxL + 11) + rm'.locals ≤ rm.locals) {rest : List Value} (hcat : (rest.map fun v => v.category).sum ≤ 8) (hf : kc + rm'.cells ≤ rm.cells ∧ ks + rm'.slots ≤ rm.slots) {x1 x2 x3 : Value} (h : sp [x1, x2, x3] z S I J R (fun i j r z' S' I' J' R' => V X (kc + rm'.cells) (ks + rm'.slots) z' S' I' J' R' (pc + 3) lv (va_rf r :: rest))) : V X kc ks z S I J R pc lv (x3 :: x2 :: x1 :: rest) := v_callS C M lk lk2 d hroom [x1, x2, x3] rest rfl rfl hcat hf h
theorem v_callSN3_3 (C : Cx X own cc rm T0 B0 nL0) {y : MethodName} {bytes : ByteArray} {maxL : Nat} {ret : Option FieldType} {rm' : Room} {sp : Sp} (M : Mt T0 B0 y bytes maxL ret 3 rm' sp) {ix : Nat} {host : String} (hn : ∀ U, Kx T0 U → va_Nw (.methodLinkNest own ix y host) U) (lk : LkN y bytes maxL ret 3) (lk2 : Cond.static y ∈ wG) (d : decode cc pc = .ok (.invokestatic ix, 3)) (hroom : rm'.frames + 1 ≤ rm.frames ∧ 8 + (maxL + 11) + rm'.locals ≤ rm.locals) {rest : List Value} (hcat : (rest.map fun v => v.category).sum ≤ 8) (hf : kc + rm'.cells ≤ rm.cells ∧ ks + rm'.slots ≤ rm.slots) {x1 x2 x3 : Value} (h : sp [x1, x2, x3] z S I J R (fun i j r z' S' I' J' R' => V X (kc + rm'.cells) (ks + rm'.slots) z' S' I' J' R' (pc + 3) lv (va_rf r :: rest))) : V X kc ks z S I J R pc lv (x3 :: x2 :: x1 :: rest) := v_callSN C M hn lk lk2 d hroom [x1, x2, x3] rest rfl rfl hcat hf h
theorem v_callS4_0 (C : Cx X own cc rm T0 B0 nL0) {y : MethodName} {bytes : ByteArray} {maxL : Nat} {ret : Option FieldType} {rm' : Room} {sp : Sp} (M : Mt T0 B0 y bytes maxL ret 0 rm' sp) {ix : Nat} (lk : LkB own ix y bytes maxL ret 4) (lk2 : Cond.static y ∈ wG) (d : decode cc pc = .ok (.invokestatic ix, 3)) (hroom : rm'.frames + 1 ≤ rm.frames ∧ 8 + (maxL + 11) + rm'.locals ≤ rm.locals) {rest : List Value} (hcat : (rest.map fun v => v.category).sum ≤ 8) (hf : kc + rm'.cells ≤ rm.cells ∧ ks + rm'.slots ≤ rm.slots) {x1 x2 x3 x4 : Value} (h : sp [x1, x2, x3, x4] z S I J R (fun i j r z' S' I' J' R' => V X (kc + rm'.cells) (ks + rm'.slots) z' S' I' J' R' (pc + 3) lv rest)) : V X kc ks z S I J R pc lv (x4 :: x3 :: x2 :: x1 :: rest) := v_callS C M lk lk2 d hroom [x1, x2, x3, x4] rest rfl rfl hcat hf h
theorem v_callSN4_0 (C : Cx X own cc rm T0 B0 nL0) {y : MethodName} {bytes : ByteArray} {maxL : Nat} {ret : Option FieldType} {rm' : Room} {sp : Sp} (M : Mt T0 B0 y bytes maxL ret 0 rm' sp) {ix : Nat} {host : String} (hn : ∀ U, Kx T0 U → va_Nw (.methodLinkNest own ix y host) U) (lk : LkN y bytes maxL ret 4) (lk2 : Cond.static y ∈ wG) (d : decode cc pc = .ok (.invokestatic ix, 3)) (hroom : rm'.frames + 1 ≤ rm.frames ∧ 8 + (maxL + 11) + rm'.locals ≤ rm.locals) {rest : List Value} (hcat : (rest.map fun v => v.category).sum ≤ 8) (hf : kc + rm'.cells ≤ rm.cells ∧ ks + rm'.slots ≤ rm.slots) {x1 x2 x3 x4 : Value} (h : sp [x1, x2, x3, x4] z S I J R (fun i j r z' S' I' J' R' => V X (kc + rm'.cells) (ks + rm'.slots) z' S' I' J' R' (pc + 3) lv rest)) : V X kc ks z S I J R pc lv (x4 :: x3 :: x2 :: x1 :: rest) := v_callSN C M hn lk lk2 d hroom [x1, x2, x3, x4] rest rfl rfl hcat hf h
theorem v_callI0 (C : Cx X own cc rm T0 B0 nL0) {y : MethodName} {bytes : ByteArray} {maxL : Nat} {rm' : Room} {sp : Sp} (M : Mt T0 B0 y bytes maxL none 0 rm' sp) {ix : Nat} (lk : LkB own ix y bytes maxL none 0) (hy : y.name = "<init>") (lk2 : Cond.instanceMethod y ∈ wG) (d : decode cc pc = .ok (.invokespecial ix, 3)) (hroom : rm'.frames + 1 ≤ rm.frames ∧ 8 + (maxL + 11) + rm'.locals ≤ rm.locals) {rest : List Value} (hcat : (rest.map fun v => v.category).sum ≤ 8) (hf : kc + rm'.cells ≤ rm.cells ∧ ks + rm'.slots ≤ rm.slots) {b : Nat} (h : sp (.ref b :: []) z S I J R (fun _ _ _ z' S' I' J' R' => V X (kc + rm'.cells) (ks + rm'.slots) z' S' I' J' R' (pc + 3) lv rest)) : V X kc ks z S I J R pc lv (.ref b :: rest) := v_callI C M lk hy lk2 d hroom [] rest rfl rfl hcat hf h
theorem v_callIN0 (C : Cx X own cc rm T0 B0 nL0) {y : MethodName} {bytes : ByteArray} {maxL : Nat} {rm' : Room} {sp : Sp} (M : Mt T0 B0 y bytes maxL none 0 rm' sp) {ix : Nat} {host : String} (hn : ∀ U, Kx T0 U → va_Nw (.methodLinkNest own ix y host) U) (lk : LkN y bytes maxL none 0) (hy : y.name = "<init>") (lk2 : Cond.instanceMethod y ∈ wG) (d : decode cc pc = .ok (.invokespecial ix, 3)) (hroom : rm'.frames + 1 ≤ rm.frames ∧ 8 + (maxL + 11) + rm'.locals ≤ rm.locals) {rest : List Value} (hcat : (rest.map fun v => v.category).sum ≤ 8) (hf : kc + rm'.cells ≤ rm.cells ∧ ks + rm'.slots ≤ rm.slots) {b : Nat} (h : sp (.ref b :: []) z S I J R (fun _ _ _ z' S' I' J' R' => V X (kc + rm'.cells) (ks + rm'.slots) z' S' I' J' R' (pc + 3) lv rest)) : V X kc ks z S I J R pc lv (.ref b :: rest) := v_callIN C M hn lk hy lk2 d hroom [] rest rfl rfl hcat hf h
theorem v_callI4 (C : Cx X own cc rm T0 B0 nL0) {y : MethodName} {bytes : ByteArray} {maxL : Nat} {rm' : Room} {sp : Sp} (M : Mt T0 B0 y bytes maxL none 0 rm' sp) {ix : Nat} (lk : LkB own ix y bytes maxL none 4) (hy : y.name = "<init>") (lk2 : Cond.instanceMethod y ∈ wG) (d : decode cc pc = .ok (.invokespecial ix, 3)) (hroom : rm'.frames + 1 ≤ rm.frames ∧ 8 + (maxL + 11) + rm'.locals ≤ rm.locals) {rest : List Value} (hcat : (rest.map fun v => v.category).sum ≤ 8) (hf : kc + rm'.cells ≤ rm.cells ∧ ks + rm'.slots ≤ rm.slots) {b : Nat} {x1 x2 x3 x4 : Value} (h : sp (.ref b :: [x1, x2, x3, x4]) z S I J R (fun _ _ _ z' S' I' J' R' => V X (kc + rm'.cells) (ks + rm'.slots) z' S' I' J' R' (pc + 3) lv rest)) : V X kc ks z S I J R pc lv (x4 :: x3 :: x2 :: x1 :: .ref b :: rest) := v_callI C M lk hy lk2 d hroom [x1, x2, x3, x4] rest rfl rfl hcat hf h
theorem v_callIN4 (C : Cx X own cc rm T0 B0 nL0) {y : MethodName} {bytes : ByteArray} {maxL : Nat} {rm' : Room} {sp : Sp} (M : Mt T0 B0 y bytes maxL none 0 rm' sp) {ix : Nat} {host : String} (hn : ∀ U, Kx T0 U → va_Nw (.methodLinkNest own ix y host) U) (lk : LkN y bytes maxL none 4) (hy : y.name = "<init>") (lk2 : Cond.instanceMethod y ∈ wG) (d : decode cc pc = .ok (.invokespecial ix, 3)) (hroom : rm'.frames + 1 ≤ rm.frames ∧ 8 + (maxL + 11) + rm'.locals ≤ rm.locals) {rest : List Value} (hcat : (rest.map fun v => v.category).sum ≤ 8) (hf : kc + rm'.cells ≤ rm.cells ∧ ks + rm'.slots ≤ rm.slots) {b : Nat} {x1 x2 x3 x4 : Value} (h : sp (.ref b :: [x1, x2, x3, x4]) z S I J R (fun _ _ _ z' S' I' J' R' => V X (kc + rm'.cells) (ks + rm'.slots) z' S' I' J' R' (pc + 3) lv rest)) : V X kc ks z S I J R pc lv (x4 :: x3 :: x2 :: x1 :: .ref b :: rest) := v_callIN C M hn lk hy lk2 d hroom [x1, x2, x3, x4] rest rfl rfl hcat hf h
end VN
abbrev rmL (n c k : Nat) : Room := { frames := n, cells := c, slots := k, locals := 64 * n }
theorem lk_X0_48 : LkB "EvenScatter$Corners" 48 yX0_noteParts cX0_noteParts 4 none 1 := ⟨wt_442, wt_4, wt_445, by decide +kernel, by decide +kernel, by decide +kernel⟩
theorem lk_X0_52 : LkB "EvenScatter$Corners" 52 yX0_countBelow cX0_countBelow 6 none 2 := ⟨wt_450, wt_4, wt_453, by decide +kernel, by decide +kernel, by decide +kernel⟩
theorem lk_X0_56 : LkB "EvenScatter$Corners" 56 yX0_diagonalOf cX0_diagonalOf 4 (some .int) 1 := ⟨wt_455, wt_4, wt_458, by decide +kernel, by decide +kernel, by decide +kernel⟩
theorem lk_X0_60 : LkB "EvenScatter$Corners" 60 yX0_setHighs cX0_setHighs 5 none 2 := ⟨wt_459, wt_4, wt_462, by decide +kernel, by decide +kernel, by decide +kernel⟩
theorem lk_X0_64 : LkB "EvenScatter$Corners" 64 yX0_cornerMayBe cX0_cornerMayBe 5 (some .boolean) 2 := ⟨wt_463, wt_4, wt_466, by decide +kernel, by decide +kernel, by decide +kernel⟩
theorem lk_X0_68 : LkB "EvenScatter$Corners" 68 yX0_sizeOf cX0_sizeOf 5 (some .long) 1 := ⟨wt_467, wt_4, wt_470, by decide +kernel, by decide +kernel, by decide +kernel⟩
theorem lk_X0_72 : LkB "EvenScatter$Corners" 72 yX0_consider cX0_consider 5 none 3 := ⟨wt_471, wt_4, wt_474, by decide +kernel, by decide +kernel, by decide +kernel⟩
theorem lk_X0_86 : LkB "EvenScatter$Corners" 86 yJ7_fill_53178 cJ7_fill_53178 4 none 2 := ⟨wt_446, wt_9, wt_448, by decide +kernel, by decide +kernel, by decide +kernel⟩
theorem lk_X0_92 : LkB "EvenScatter$Corners" 92 yX2_partAt cX2_partAt 3 (some .int) 2 := ⟨wt_449, wt_6, wt_297, by decide +kernel, by decide +kernel, by decide +kernel⟩
theorem lk_X0_96 : LkB "EvenScatter$Corners" 96 yJ7_fill_fda19 cJ7_fill_fda19 5 none 4 := ⟨wt_454, wt_9, wt_358, by decide +kernel, by decide +kernel, by decide +kernel⟩
theorem lk_X1_27 : LkB "EvenScatter$Ranks" 27 yX1_gradeOfChosen cX1_gradeOfChosen 2 (some .int) 1 := ⟨wt_378, wt_3, wt_381, by decide +kernel, by decide +kernel, by decide +kernel⟩
theorem lk_X1_40 : LkB "EvenScatter$Ranks" 40 yX1_walk cX1_walk 5 none 2 := ⟨wt_382, wt_3, wt_385, by decide +kernel, by decide +kernel, by decide +kernel⟩
theorem lk_X1_44 : LkB "EvenScatter$Ranks" 44 yX2_rowAt cX2_rowAt 3 (some .int) 2 := ⟨wt_386, wt_6, wt_203, by decide +kernel, by decide +kernel, by decide +kernel⟩
theorem lk_X1_48 : LkB "EvenScatter$Ranks" 48 yX1_keepIfIndependent cX1_keepIfIndependent 4 (some .boolean) 1 := ⟨wt_387, wt_3, wt_390, by decide +kernel, by decide +kernel, by decide +kernel⟩
theorem lk_X1_52 : LkB "EvenScatter$Ranks" 52 yJ9_min_7cf53 cJ9_min_7cf53 2 (some .int) 2 := ⟨wt_391, wt_7, wt_138, by decide +kernel, by decide +kernel, by decide +kernel⟩
theorem lk_X2_31 : LkB "EvenScatter$Scatter" 31 yJ9_min_7cf53 cJ9_min_7cf53 2 (some .int) 2 := ⟨wt_136, wt_7, wt_138, by decide +kernel, by decide +kernel, by decide +kernel⟩
theorem lk_X2_37 : LkB "EvenScatter$Scatter" 37 yJ9_max_7cf53 cJ9_max_7cf53 2 (some .int) 2 := ⟨wt_139, wt_7, wt_141, by decide +kernel, by decide +kernel, by decide +kernel⟩
theorem lk_X2_55 : LkB "EvenScatter$Scatter" 55 yX2_fillFromRows cX2_fillFromRows 7 none 1 := ⟨wt_244, wt_6, wt_211, by decide +kernel, by decide +kernel, by decide +kernel⟩
theorem lk_X2_59 : LkB "EvenScatter$Scatter" 59 yX2_columnAt cX2_columnAt 5 (some .int) 2 := ⟨wt_212, wt_6, wt_215, by decide +kernel, by decide +kernel, by decide +kernel⟩
theorem lk_X2_62 : LkB "EvenScatter$Scatter" 62 yX2_rowAt cX2_rowAt 3 (some .int) 2 := ⟨wt_216, wt_6, wt_203, by decide +kernel, by decide +kernel, by decide +kernel⟩
theorem lk_X2_69 : LkB "EvenScatter$Scatter" 69 yX2_rungNumbers cX2_rungNumbers 9 (some (.array .int)) 3 := ⟨wt_239, wt_6, wt_241, by decide +kernel, by decide +kernel, by decide +kernel⟩
theorem lk_X2_73 : LkB "EvenScatter$Scatter" 73 yX2_setRow cX2_setRow 4 none 3 := ⟨wt_243, wt_6, wt_207, by decide +kernel, by decide +kernel, by decide +kernel⟩
theorem lk_X3_27 : LkB "EvenScatter$Tray" 27 yX2_partAt cX2_partAt 3 (some .int) 2 := ⟨wt_327, wt_6, wt_297, by decide +kernel, by decide +kernel, by decide +kernel⟩
theorem lk_X3_37 : LkB "EvenScatter$Tray" 37 yJ6_bitCount_0f7a4 cJ6_bitCount_0f7a4 1 (some .int) 1 := ⟨wt_497, wt_10, wt_499, by decide +kernel, by decide +kernel, by decide +kernel⟩
theorem lk_X4_103 : LkB "EvenScatter" 103 yX2_addRung cX2_addRung 10 none 3 := ⟨wt_235, wt_6, wt_238, by decide +kernel, by decide +kernel, by decide +kernel⟩
theorem lk_X4_107 : LkB "EvenScatter" 107 yX2_hasRows cX2_hasRows 1 (some .boolean) 0 := ⟨wt_249, wt_6, wt_252, by decide +kernel, by decide +kernel, by decide +kernel⟩
theorem lk_X4_111 : LkB "EvenScatter" 111 yX2_takeRowsAndMasks cX2_takeRowsAndMasks 3 none 1 := ⟨wt_253, wt_6, wt_256, by decide +kernel, by decide +kernel, by decide +kernel⟩
theorem lk_X4_121 : LkB "EvenScatter" 121 yX2_fillFromStep cX2_fillFromStep 3 none 1 := ⟨wt_272, wt_6, wt_275, by decide +kernel, by decide +kernel, by decide +kernel⟩
theorem lk_X4_124 : LkB "EvenScatter" 124 yX2_fillFromSeed cX2_fillFromSeed 7 none 1 := ⟨wt_280, wt_6, wt_283, by decide +kernel, by decide +kernel, by decide +kernel⟩
theorem lk_X4_131 : LkB "EvenScatter" 131 yX2_partAt cX2_partAt 3 (some .int) 2 := ⟨wt_294, wt_6, wt_297, by decide +kernel, by decide +kernel, by decide +kernel⟩
theorem lk_X4_135 : LkB "EvenScatter" 135 yX2_pointOfTurn cX2_pointOfTurn 2 (some .int) 0 := ⟨wt_303, wt_6, wt_306, by decide +kernel, by decide +kernel, by decide +kernel⟩
theorem lk_X4_148 : LkB "EvenScatter" 148 yX3_boxHas cX3_boxHas 5 (some .boolean) 2 := ⟨wt_323, wt_2, wt_326, by decide +kernel, by decide +kernel, by decide +kernel⟩
theorem lk_X4_152 : LkB "EvenScatter" 152 yX3_marksAreParts cX3_marksAreParts 4 (some .boolean) 2 := ⟨wt_332, wt_2, wt_335, by decide +kernel, by decide +kernel, by decide +kernel⟩
theorem lk_X4_155 : LkB "EvenScatter" 155 yX4_shapeFault cX4_shapeFault 2 (some .int) 1 := ⟨wt_340, wt_1, wt_343, by decide +kernel, by decide +kernel, by decide +kernel⟩
theorem lk_X4_158 : LkB "EvenScatter" 158 yX4_firstUneven cX4_firstUneven 6 (some .int) 1 := ⟨wt_352, wt_1, wt_355, by decide +kernel, by decide +kernel, by decide +kernel⟩
theorem lk_X4_161 : LkB "EvenScatter" 161 yX1_gradeOfAll cX1_gradeOfAll 3 (some .int) 1 := ⟨wt_374, wt_3, wt_377, by decide +kernel, by decide +kernel, by decide +kernel⟩
theorem lk_X4_164 : LkB "EvenScatter" 164 yX1_gradeOfTwo cX1_gradeOfTwo 4 (some .int) 3 := ⟨wt_396, wt_3, wt_399, by decide +kernel, by decide +kernel, by decide +kernel⟩
theorem lk_X4_168 : LkB "EvenScatter" 168 yX4_refuseLong cX4_refuseLong 2 (some .long) 1 := ⟨wt_404, wt_1, wt_407, by decide +kernel, by decide +kernel, by decide +kernel⟩
theorem lk_X4_172 : LkB "EvenScatter" 172 yX3_highsMayBe cX3_highsMayBe 3 (some .boolean) 1 := ⟨wt_409, wt_2, wt_412, by decide +kernel, by decide +kernel, by decide +kernel⟩
theorem lk_X4_176 : LkB "EvenScatter" 176 yX3_cornerHas cX3_cornerHas 6 (some .boolean) 3 := ⟨wt_413, wt_2, wt_416, by decide +kernel, by decide +kernel, by decide +kernel⟩
theorem lk_X4_180 : LkB "EvenScatter" 180 yX4_powerOf cX4_powerOf 6 (some .long) 2 := ⟨wt_417, wt_1, wt_419, by decide +kernel, by decide +kernel, by decide +kernel⟩
theorem lk_X4_184 : LkB "EvenScatter" 184 yJ9_abs_067f4 cJ9_abs_067f4 2 (some .long) 1 := ⟨wt_420, wt_7, wt_422, by decide +kernel, by decide +kernel, by decide +kernel⟩
theorem lk_X4_190 : LkB "EvenScatter" 190 yX4_fraction cX4_fraction 9 (some .long) 3 := ⟨wt_423, wt_1, wt_425, by decide +kernel, by decide +kernel, by decide +kernel⟩
theorem lk_X4_194 : LkB "EvenScatter" 194 yX4_mayBeMeasured cX4_mayBeMeasured 1 (some .boolean) 1 := ⟨wt_433, wt_1, wt_435, by decide +kernel, by decide +kernel, by decide +kernel⟩
theorem lk_X4_197 : LkB "EvenScatter" 197 yX0_search cX0_search 9 none 2 := ⟨wt_436, wt_4, wt_439, by decide +kernel, by decide +kernel, by decide +kernel⟩
theorem lk_X4_216 : LkB "EvenScatter" 216 yX4_pairSum cX4_pairSum 8 (some .long) 1 := ⟨wt_482, wt_1, wt_484, by decide +kernel, by decide +kernel, by decide +kernel⟩
theorem lk_X4_220 : LkB "EvenScatter" 220 yX4_pointSum cX4_pointSum 11 (some .long) 1 := ⟨wt_486, wt_1, wt_488, by decide +kernel, by decide +kernel, by decide +kernel⟩
theorem lk_X4_223 : LkB "EvenScatter" 223 yX3_marksMayBe cX3_marksMayBe 4 (some .boolean) 2 := ⟨wt_344, wt_2, wt_347, by decide +kernel, by decide +kernel, by decide +kernel⟩
theorem lk_X4_226 : LkB "EvenScatter" 226 yX3_signOf cX3_signOf 5 (some .int) 2 := ⟨wt_493, wt_2, wt_496, by decide +kernel, by decide +kernel, by decide +kernel⟩
theorem lk_X4_230 : LkB "EvenScatter" 230 yX4_fillWaves cX4_fillWaves 9 none 2 := ⟨wt_507, wt_1, wt_510, by decide +kernel, by decide +kernel, by decide +kernel⟩
theorem lk_X4_234 : LkB "EvenScatter" 234 yJ6_bitCount_0f7a4 cJ6_bitCount_0f7a4 1 (some .int) 1 := ⟨wt_511, wt_10, wt_499, by decide +kernel, by decide +kernel, by decide +kernel⟩
theorem lk_X4_241 : LkB "EvenScatter" 241 yX3_markSum cX3_markSum 4 (some .int) 1 := ⟨wt_348, wt_2, wt_351, by decide +kernel, by decide +kernel, by decide +kernel⟩
theorem lk_X4_244 : LkB "EvenScatter" 244 yX3_productOfPowers cX3_productOfPowers 6 (some .long) 2 := ⟨wt_517, wt_2, wt_520, by decide +kernel, by decide +kernel, by decide +kernel⟩
theorem lk_X4_250 : LkB "EvenScatter" 250 yJ7_fill_fda19 cJ7_fill_fda19 5 none 4 := ⟨wt_356, wt_9, wt_358, by decide +kernel, by decide +kernel, by decide +kernel⟩
theorem lk_X4_256 : LkB "EvenScatter" 256 yX3_boxOf cX3_boxOf 6 (some .int) 2 := ⟨wt_362, wt_2, wt_365, by decide +kernel, by decide +kernel, by decide +kernel⟩
theorem lk_X4_259 : LkB "EvenScatter" 259 yJ9_max_7cf53 cJ9_max_7cf53 2 (some .int) 2 := ⟨wt_485, wt_7, wt_141, by decide +kernel, by decide +kernel, by decide +kernel⟩
theorem lk_X4_264 : LkB "EvenScatter" 264 yX4_firstOf cX4_firstOf 3 (some .int) 2 := ⟨wt_231, wt_1, wt_233, by decide +kernel, by decide +kernel, by decide +kernel⟩
theorem lk_X4_268 : LkB "EvenScatter" 268 yX4_commonFactor cX4_commonFactor 11 (some .long) 2 := ⟨wt_426, wt_1, wt_428, by decide +kernel, by decide +kernel, by decide +kernel⟩
theorem lk_X4_50 : LkB "EvenScatter" 50 yX4_sizeFault cX4_sizeFault 3 (some .int) 2 := ⟨wt_123, wt_1, wt_126, by decide +kernel, by decide +kernel, by decide +kernel⟩
theorem lk_X4_54 : LkB "EvenScatter" 54 yX4_refuse cX4_refuse 3 (some .int) 1 := ⟨wt_127, wt_1, wt_130, by decide +kernel, by decide +kernel, by decide +kernel⟩
theorem lk_X4_58 : LkB "EvenScatter" 58 yX2_init cX2_init 5 none 4 := ⟨wt_132, wt_6, wt_134, by decide +kernel, by decide +kernel, by decide +kernel⟩
theorem lk_X4_61 : LkB "EvenScatter" 61 yX4_keep cX4_keep 3 (some .int) 1 := ⟨wt_184, wt_1, wt_187, by decide +kernel, by decide +kernel, by decide +kernel⟩
theorem lk_X4_65 : LkB "EvenScatter" 65 yX4_find cX4_find 2 (some (.object "EvenScatter$Scatter")) 1 := ⟨wt_192, wt_1, wt_195, by decide +kernel, by decide +kernel, by decide +kernel⟩
theorem lk_X4_69 : LkB "EvenScatter" 69 yX2_hasDirection cX2_hasDirection 2 (some .boolean) 1 := ⟨wt_196, wt_6, wt_199, by decide +kernel, by decide +kernel, by decide +kernel⟩
theorem lk_X4_82 : LkB "EvenScatter" 82 yX2_rowAt cX2_rowAt 3 (some .int) 2 := ⟨wt_200, wt_6, wt_203, by decide +kernel, by decide +kernel, by decide +kernel⟩
theorem lk_X4_85 : LkB "EvenScatter" 85 yX2_setRow cX2_setRow 4 none 3 := ⟨wt_204, wt_6, wt_207, by decide +kernel, by decide +kernel, by decide +kernel⟩
theorem lk_X4_89 : LkB "EvenScatter" 89 yX2_fillFromRows cX2_fillFromRows 7 none 1 := ⟨wt_208, wt_6, wt_211, by decide +kernel, by decide +kernel, by decide +kernel⟩
theorem lk_X4_96 : LkB "EvenScatter" 96 yX4_degree cX4_degree 3 (some .int) 1 := ⟨wt_225, wt_1, wt_227, by decide +kernel, by decide +kernel, by decide +kernel⟩
theorem lk_X4_99 : LkB "EvenScatter" 99 yX4_firstsMayBe cX4_firstsMayBe 5 (some .boolean) 2 := ⟨wt_228, wt_1, wt_230, by decide +kernel, by decide +kernel, by decide +kernel⟩
theorem lk_L_100 : LkB "EvenScatterLaw" 100 yX4_pair cX4_pair 5 (some .int) 3 := ⟨wt_392, wt_1, wt_395, by decide +kernel, by decide +kernel, by decide +kernel⟩
theorem lk_L_103 : LkB "EvenScatterLaw" 103 yX5_pair cX5_pair 4 (some .int) 3 := ⟨wt_729, wt_5, wt_732, by decide +kernel, by decide +kernel, by decide +kernel⟩
theorem lk_L_104 : LkB "EvenScatterLaw" 104 yX4_gap cX4_gap 13 (some .long) 3 := ⟨wt_400, wt_1, wt_403, by decide +kernel, by decide +kernel, by decide +kernel⟩
theorem lk_L_108 : LkB "EvenScatterLaw" 108 yX5_gap cX5_gap 6 (some .long) 3 := ⟨wt_733, wt_5, wt_736, by decide +kernel, by decide +kernel, by decide +kernel⟩
theorem lk_L_109 : LkB "EvenScatterLaw" 109 yX4_worst cX4_worst 6 (some .long) 2 := ⟨wt_429, wt_1, wt_432, by decide +kernel, by decide +kernel, by decide +kernel⟩
theorem lk_L_113 : LkB "EvenScatterLaw" 113 yX5_worst cX5_worst 17 (some .long) 2 := ⟨wt_759, wt_5, wt_762, by decide +kernel, by decide +kernel, by decide +kernel⟩
theorem lk_L_114 : LkB "EvenScatterLaw" 114 yX4_square cX4_square 15 (some .long) 2 := ⟨wt_476, wt_1, wt_479, by decide +kernel, by decide +kernel, by decide +kernel⟩
theorem lk_L_117 : LkB "EvenScatterLaw" 117 yX5_square cX5_square 19 (some .long) 2 := ⟨wt_763, wt_5, wt_766, by decide +kernel, by decide +kernel, by decide +kernel⟩
theorem lk_L_118 : LkB "EvenScatterLaw" 118 yX4_wave cX4_wave 6 (some .long) 1 := ⟨wt_489, wt_1, wt_492, by decide +kernel, by decide +kernel, by decide +kernel⟩
theorem lk_L_12 : LkB "EvenScatterLaw" 12 yX5_init cX5_init 1 none 0 := ⟨wt_528, wt_5, wt_530, by decide +kernel, by decide +kernel, by decide +kernel⟩
theorem lk_L_122 : LkB "EvenScatterLaw" 122 yX5_wave cX5_wave 3 (some .long) 1 := ⟨wt_769, wt_5, wt_772, by decide +kernel, by decide +kernel, by decide +kernel⟩
theorem lk_L_123 : LkB "EvenScatterLaw" 123 yX4_waves cX4_waves 9 (some .long) 3 := ⟨wt_503, wt_1, wt_506, by decide +kernel, by decide +kernel, by decide +kernel⟩
theorem lk_L_127 : LkB "EvenScatterLaw" 127 yX5_waves cX5_waves 7 (some .long) 3 := ⟨wt_778, wt_5, wt_781, by decide +kernel, by decide +kernel, by decide +kernel⟩
theorem lk_L_128 : LkB "EvenScatterLaw" 128 yX4_sum cX4_sum 10 (some .long) 2 := ⟨wt_513, wt_1, wt_516, by decide +kernel, by decide +kernel, by decide +kernel⟩
theorem lk_L_13 : LkB "EvenScatterLaw" 13 yX4_table cX4_table 4 (some .int) 2 := ⟨wt_119, wt_1, wt_122, by decide +kernel, by decide +kernel, by decide +kernel⟩
theorem lk_L_131 : LkB "EvenScatterLaw" 131 yX5_sum cX5_sum 14 (some .long) 2 := ⟨wt_786, wt_5, wt_789, by decide +kernel, by decide +kernel, by decide +kernel⟩
theorem lk_L_132 : LkB "EvenScatterLaw" 132 yX4_status cX4_status 2 (some .int) 1 := ⟨wt_522, wt_1, wt_525, by decide +kernel, by decide +kernel, by decide +kernel⟩
theorem lk_L_135 : LkB "EvenScatterLaw" 135 yX5_status cX5_status 2 (some .int) 1 := ⟨wt_790, wt_5, wt_793, by decide +kernel, by decide +kernel, by decide +kernel⟩
theorem lk_L_17 : LkB "EvenScatterLaw" 17 yX5_table cX5_table 4 (some .int) 2 := ⟨wt_599, wt_5, wt_602, by decide +kernel, by decide +kernel, by decide +kernel⟩
theorem lk_L_18 : LkB "EvenScatterLaw" 18 yX4_row cX4_row 7 (some .int) 4 := ⟨wt_188, wt_1, wt_191, by decide +kernel, by decide +kernel, by decide +kernel⟩
theorem lk_L_22 : LkB "EvenScatterLaw" 22 yX5_row cX5_row 7 (some .int) 4 := ⟨wt_614, wt_5, wt_617, by decide +kernel, by decide +kernel, by decide +kernel⟩
theorem lk_L_23 : LkB "EvenScatterLaw" 23 yX4_ladder cX4_ladder 5 (some .int) 1 := ⟨wt_217, wt_1, wt_220, by decide +kernel, by decide +kernel, by decide +kernel⟩
theorem lk_L_27 : LkB "EvenScatterLaw" 27 yX5_ladder cX5_ladder 5 (some .int) 1 := ⟨wt_629, wt_5, wt_632, by decide +kernel, by decide +kernel, by decide +kernel⟩
theorem lk_L_30 : LkB "EvenScatterLaw" 30 yX4_direction cX4_direction 6 (some .int) 3 := ⟨wt_221, wt_1, wt_224, by decide +kernel, by decide +kernel, by decide +kernel⟩
theorem lk_L_34 : LkB "EvenScatterLaw" 34 yX5_direction cX5_direction 11 (some .int) 3 := ⟨wt_633, wt_5, wt_636, by decide +kernel, by decide +kernel, by decide +kernel⟩
theorem lk_L_35 : LkB "EvenScatterLaw" 35 yX4_turned cX4_turned 4 (some .int) 1 := ⟨wt_245, wt_1, wt_248, by decide +kernel, by decide +kernel, by decide +kernel⟩
theorem lk_L_38 : LkB "EvenScatterLaw" 38 yX5_turned cX5_turned 4 (some .int) 1 := ⟨wt_638, wt_5, wt_641, by decide +kernel, by decide +kernel, by decide +kernel⟩
theorem lk_L_39 : LkB "EvenScatterLaw" 39 yX4_mask cX4_mask 6 (some .int) 3 := ⟨wt_260, wt_1, wt_263, by decide +kernel, by decide +kernel, by decide +kernel⟩
theorem lk_L_43 : LkB "EvenScatterLaw" 43 yX5_mask cX5_mask 5 (some .int) 3 := ⟨wt_642, wt_5, wt_645, by decide +kernel, by decide +kernel, by decide +kernel⟩
theorem lk_L_44 : LkB "EvenScatterLaw" 44 yX4_grid cX4_grid 3 (some .int) 2 := ⟨wt_264, wt_1, wt_267, by decide +kernel, by decide +kernel, by decide +kernel⟩
theorem lk_L_47 : LkB "EvenScatterLaw" 47 yX5_grid cX5_grid 3 (some .int) 2 := ⟨wt_646, wt_5, wt_649, by decide +kernel, by decide +kernel, by decide +kernel⟩
theorem lk_L_48 : LkB "EvenScatterLaw" 48 yX4_step cX4_step 6 (some .int) 3 := ⟨wt_268, wt_1, wt_271, by decide +kernel, by decide +kernel, by decide +kernel⟩
theorem lk_L_51 : LkB "EvenScatterLaw" 51 yX5_step cX5_step 5 (some .int) 3 := ⟨wt_650, wt_5, wt_653, by decide +kernel, by decide +kernel, by decide +kernel⟩
theorem lk_L_52 : LkB "EvenScatterLaw" 52 yX4_lots cX4_lots 7 (some .int) 3 := ⟨wt_276, wt_1, wt_279, by decide +kernel, by decide +kernel, by decide +kernel⟩
theorem lk_L_55 : LkB "EvenScatterLaw" 55 yX5_lots cX5_lots 11 (some .int) 3 := ⟨wt_654, wt_5, wt_657, by decide +kernel, by decide +kernel, by decide +kernel⟩
theorem lk_L_56 : LkB "EvenScatterLaw" 56 yX4_scatter cX4_scatter 4 (some .int) 2 := ⟨wt_286, wt_1, wt_289, by decide +kernel, by decide +kernel, by decide +kernel⟩
theorem lk_L_59 : LkB "EvenScatterLaw" 59 yX5_scatter cX5_scatter 3 (some .int) 2 := ⟨wt_660, wt_5, wt_663, by decide +kernel, by decide +kernel, by decide +kernel⟩
theorem lk_L_60 : LkB "EvenScatterLaw" 60 yX4_part cX4_part 5 (some .int) 3 := ⟨wt_290, wt_1, wt_293, by decide +kernel, by decide +kernel, by decide +kernel⟩
theorem lk_L_63 : LkB "EvenScatterLaw" 63 yX5_part cX5_part 4 (some .int) 3 := ⟨wt_664, wt_5, wt_667, by decide +kernel, by decide +kernel, by decide +kernel⟩
theorem lk_L_64 : LkB "EvenScatterLaw" 64 yX4_next cX4_next 4 (some .int) 1 := ⟨wt_298, wt_1, wt_301, by decide +kernel, by decide +kernel, by decide +kernel⟩
theorem lk_L_67 : LkB "EvenScatterLaw" 67 yX5_next cX5_next 3 (some .int) 1 := ⟨wt_675, wt_5, wt_678, by decide +kernel, by decide +kernel, by decide +kernel⟩
theorem lk_L_68 : LkB "EvenScatterLaw" 68 yX4_skip cX4_skip 5 (some .int) 2 := ⟨wt_307, wt_1, wt_310, by decide +kernel, by decide +kernel, by decide +kernel⟩
theorem lk_L_71 : LkB "EvenScatterLaw" 71 yX5_skip cX5_skip 4 (some .int) 2 := ⟨wt_680, wt_5, wt_683, by decide +kernel, by decide +kernel, by decide +kernel⟩
theorem lk_L_72 : LkB "EvenScatterLaw" 72 yX4_side cX4_side 4 (some .int) 3 := ⟨wt_311, wt_1, wt_314, by decide +kernel, by decide +kernel, by decide +kernel⟩
theorem lk_L_75 : LkB "EvenScatterLaw" 75 yX5_side cX5_side 4 (some .int) 3 := ⟨wt_684, wt_5, wt_687, by decide +kernel, by decide +kernel, by decide +kernel⟩
theorem lk_L_76 : LkB "EvenScatterLaw" 76 yX4_mark cX4_mark 4 (some .int) 2 := ⟨wt_315, wt_1, wt_318, by decide +kernel, by decide +kernel, by decide +kernel⟩
theorem lk_L_79 : LkB "EvenScatterLaw" 79 yX5_mark cX5_mark 4 (some .int) 2 := ⟨wt_689, wt_5, wt_692, by decide +kernel, by decide +kernel, by decide +kernel⟩
theorem lk_L_80 : LkB "EvenScatterLaw" 80 yX4_count cX4_count 5 (some .int) 1 := ⟨wt_319, wt_1, wt_322, by decide +kernel, by decide +kernel, by decide +kernel⟩
theorem lk_L_83 : LkB "EvenScatterLaw" 83 yX5_count cX5_count 7 (some .int) 1 := ⟨wt_693, wt_5, wt_696, by decide +kernel, by decide +kernel, by decide +kernel⟩
theorem lk_L_84 : LkB "EvenScatterLaw" 84 yX4_back cX4_back 4 (some .int) 1 := ⟨wt_328, wt_1, wt_331, by decide +kernel, by decide +kernel, by decide +kernel⟩
theorem lk_L_87 : LkB "EvenScatterLaw" 87 yX5_back cX5_back 5 (some .int) 1 := ⟨wt_697, wt_5, wt_700, by decide +kernel, by decide +kernel, by decide +kernel⟩
theorem lk_L_88 : LkB "EvenScatterLaw" 88 yX4_even cX4_even 4 (some .int) 1 := ⟨wt_336, wt_1, wt_339, by decide +kernel, by decide +kernel, by decide +kernel⟩
theorem lk_L_9 : LkB "EvenScatterLaw" 9 yX4_init cX4_init 1 none 0 := ⟨wt_13, wt_1, wt_15, by decide +kernel, by decide +kernel, by decide +kernel⟩
theorem lk_L_91 : LkB "EvenScatterLaw" 91 yX5_even cX5_even 3 (some .int) 1 := ⟨wt_701, wt_5, wt_704, by decide +kernel, by decide +kernel, by decide +kernel⟩
theorem lk_L_92 : LkB "EvenScatterLaw" 92 yX4_why cX4_why 3 (some .int) 1 := ⟨wt_366, wt_1, wt_369, by decide +kernel, by decide +kernel, by decide +kernel⟩
theorem lk_L_95 : LkB "EvenScatterLaw" 95 yX5_why cX5_why 3 (some .int) 1 := ⟨wt_713, wt_5, wt_716, by decide +kernel, by decide +kernel, by decide +kernel⟩
theorem lk_L_96 : LkB "EvenScatterLaw" 96 yX4_grade cX4_grade 3 (some .int) 1 := ⟨wt_370, wt_1, wt_373, by decide +kernel, by decide +kernel, by decide +kernel⟩
theorem lk_L_99 : LkB "EvenScatterLaw" 99 yX5_grade cX5_grade 2 (some .int) 1 := ⟨wt_717, wt_5, wt_720, by decide +kernel, by decide +kernel, by decide +kernel⟩
theorem lk_X5_106 : LkB "EvenScatterModel" 106 yX5_odd cX5_odd 3 (some .int) 1 := ⟨wt_672, wt_5, wt_674, by decide +kernel, by decide +kernel, by decide +kernel⟩
theorem lk_X5_109 : LkB "EvenScatterModel" 109 yX5_partOf cX5_partOf 6 (some .int) 3 := ⟨wt_668, wt_5, wt_671, by decide +kernel, by decide +kernel, by decide +kernel⟩
theorem lk_X5_119 : LkB "EvenScatterModel" 119 yX5_lacksShape cX5_lacksShape 4 (some .int) 1 := ⟨wt_705, wt_5, wt_708, by decide +kernel, by decide +kernel, by decide +kernel⟩
theorem lk_X5_122 : LkB "EvenScatterModel" 122 yX5_uneven cX5_uneven 6 (some .int) 1 := ⟨wt_709, wt_5, wt_712, by decide +kernel, by decide +kernel, by decide +kernel⟩
theorem lk_X5_125 : LkB "EvenScatterModel" 125 yX5_areEven cX5_areEven 8 (some .boolean) 3 := ⟨wt_725, wt_5, wt_728, by decide +kernel, by decide +kernel, by decide +kernel⟩
theorem lk_X5_129 : LkB "EvenScatterModel" 129 yX5_gradeOf cX5_gradeOf 4 (some .int) 2 := ⟨wt_721, wt_5, wt_724, by decide +kernel, by decide +kernel, by decide +kernel⟩
theorem lk_X5_132 : LkB "EvenScatterModel" 132 yX5_common cX5_common 10 (some .long) 2 := ⟨wt_756, wt_5, wt_758, by decide +kernel, by decide +kernel, by decide +kernel⟩
theorem lk_X5_136 : LkB "EvenScatterModel" 136 yX5_inCorner cX5_inCorner 8 (some .int) 2 := ⟨wt_746, wt_5, wt_749, by decide +kernel, by decide +kernel, by decide +kernel⟩
theorem lk_X5_140 : LkB "EvenScatterModel" 140 yX5_power cX5_power 6 (some .long) 2 := ⟨wt_750, wt_5, wt_752, by decide +kernel, by decide +kernel, by decide +kernel⟩
theorem lk_X5_143 : LkB "EvenScatterModel" 143 yX5_refuseLong cX5_refuseLong 2 (some .long) 1 := ⟨wt_737, wt_5, wt_740, by decide +kernel, by decide +kernel, by decide +kernel⟩
theorem lk_X5_147 : LkB "EvenScatterModel" 147 yX5_cornerLess cX5_cornerLess 6 (some .long) 2 := ⟨wt_742, wt_5, wt_745, by decide +kernel, by decide +kernel, by decide +kernel⟩
theorem lk_X5_151 : LkB "EvenScatterModel" 151 yX5_ratio cX5_ratio 7 (some .long) 3 := ⟨wt_753, wt_5, wt_755, by decide +kernel, by decide +kernel, by decide +kernel⟩
theorem lk_X5_161 : LkB "EvenScatterModel" 161 yX5_waveOf cX5_waveOf 7 (some .long) 1 := ⟨wt_773, wt_5, wt_776, by decide +kernel, by decide +kernel, by decide +kernel⟩
theorem lk_X5_164 : LkB "EvenScatterModel" 164 yX5_ones cX5_ones 3 (some .int) 1 := ⟨wt_782, wt_5, wt_784, by decide +kernel, by decide +kernel, by decide +kernel⟩
theorem lk_X5_76 : LkB "EvenScatterModel" 76 yX5_in cX5_in 6 (some .boolean) 3 := ⟨wt_626, wt_5, wt_628, by decide +kernel, by decide +kernel, by decide +kernel⟩
theorem lk_X5_80 : LkB "EvenScatterModel" 80 yX5_isScatter cX5_isScatter 2 (some .boolean) 1 := ⟨wt_622, wt_5, wt_625, by decide +kernel, by decide +kernel, by decide +kernel⟩
theorem lk_X5_84 : LkB "EvenScatterModel" 84 yX5_lacks cX5_lacks 2 (some .int) 2 := ⟨wt_603, wt_5, wt_605, by decide +kernel, by decide +kernel, by decide +kernel⟩
theorem lk_X5_88 : LkB "EvenScatterModel" 88 yX5_refuse cX5_refuse 2 (some .int) 1 := ⟨wt_606, wt_5, wt_609, by decide +kernel, by decide +kernel, by decide +kernel⟩
theorem lk_X5_92 : LkB "EvenScatterModel" 92 yX5_make cX5_make 6 (some .int) 4 := ⟨wt_610, wt_5, wt_613, by decide +kernel, by decide +kernel, by decide +kernel⟩
theorem lk_X5_96 : LkB "EvenScatterModel" 96 yX5_hasDirection cX5_hasDirection 3 (some .boolean) 2 := ⟨wt_618, wt_5, wt_621, by decide +kernel, by decide +kernel, by decide +kernel⟩
theorem lk_J7_13 : LkB "java/util/Arrays" 13 yJ7_rangeCheck_23922 cJ7_rangeCheck_23922 3 none 3 := ⟨wt_359, wt_9, wt_361, by decide +kernel, by decide +kernel, by decide +kernel⟩
theorem lk_X0_33 : LkN yX4_powerOf cX4_powerOf 6 (some .long) 2 := ⟨wt_1, wt_419, by decide +kernel, by decide +kernel, by decide +kernel⟩
theorem lk_X2_77 : LkN yX4_firstOf cX4_firstOf 3 (some .int) 2 := ⟨wt_1, wt_233, by decide +kernel, by decide +kernel, by decide +kernel⟩
theorem lk_X3_43 : LkN yX4_powerOf cX4_powerOf 6 (some .long) 2 := ⟨wt_1, wt_419, by decide +kernel, by decide +kernel, by decide +kernel⟩
theorem lk_X4_17 : LkN yX3_init cX3_init 1 none 0 := ⟨wt_2, wt_25, by decide +kernel, by decide +kernel, by decide +kernel⟩
theorem lk_X4_24 : LkN yX1_init cX1_init 1 none 0 := ⟨wt_3, wt_45, by decide +kernel, by decide +kernel, by decide +kernel⟩
theorem lk_X4_35 : LkN yX0_init cX0_init 1 none 0 := ⟨wt_4, wt_67, by decide +kernel, by decide +kernel, by decide +kernel⟩
end
