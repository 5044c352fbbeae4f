section
-- ===== PART A: goes FIRST, ahead of the names: the tables' words, and 'selects' of the private methods out of them =====
/-- a private method of a class that the tables say can be made, by its rows of tables_1 -/
def lw_okq (q : MethodName × Nat) : Prop := (q.1.cls ≠ "java/lang/invoke/MethodHandle" ∧ q.1.cls ≠ "java/lang/invoke/VarHandle") ∧ Cond.instantiable q.1.cls q.2 ∈ tables_1 ∧ Cond.privateMethod q.1 ∈ tables_1 ∧ Cond.instanceMethod q.1 ∈ tables_1
theorem lw_p0 : lw_okq (⟨"LentChanged$Page", "fitsTown", "(I)Z"⟩, 2) := ⟨⟨by decide +kernel, by decide +kernel⟩, List.mem_of_getElem? (i := 25) (by decide +kernel), List.mem_of_getElem? (i := 237) (by decide +kernel), List.mem_of_getElem? (i := 238) (by decide +kernel)⟩
theorem lw_p1 : lw_okq (⟨"LentChanged$Things", "takeBack", "(ILLentChanged$Town;)V"⟩, 8) := ⟨⟨by decide +kernel, by decide +kernel⟩, List.mem_of_getElem? (i := 70) (by decide +kernel), List.mem_of_getElem? (i := 487) (by decide +kernel), List.mem_of_getElem? (i := 488) (by decide +kernel)⟩
theorem lw_p2 : lw_okq (⟨"LentChanged$Ways", "begin", "(I)V"⟩, 9) := ⟨⟨by decide +kernel, by decide +kernel⟩, List.mem_of_getElem? (i := 104) (by decide +kernel), List.mem_of_getElem? (i := 505) (by decide +kernel), List.mem_of_getElem? (i := 506) (by decide +kernel)⟩
theorem lw_p3 : lw_okq (⟨"LentChanged$Ways", "addAllOf", "(I)V"⟩, 9) := ⟨⟨by decide +kernel, by decide +kernel⟩, List.mem_of_getElem? (i := 104) (by decide +kernel), List.mem_of_getElem? (i := 513) (by decide +kernel), List.mem_of_getElem? (i := 514) (by decide +kernel)⟩
theorem lw_p4 : lw_okq (⟨"LentChanged$Ways", "addLoan", "(III)V"⟩, 9) := ⟨⟨by decide +kernel, by decide +kernel⟩, List.mem_of_getElem? (i := 104) (by decide +kernel), List.mem_of_getElem? (i := 523) (by decide +kernel), List.mem_of_getElem? (i := 524) (by decide +kernel)⟩
theorem lw_p5 : lw_okq (⟨"LentChanged$Spoiling", "isSafeWithout", "(IIII)Z"⟩, 4) := ⟨⟨by decide +kernel, by decide +kernel⟩, List.mem_of_getElem? (i := 139) (by decide +kernel), List.mem_of_getElem? (i := 555) (by decide +kernel), List.mem_of_getElem? (i := 556) (by decide +kernel)⟩
theorem lw_p6 : lw_okq (⟨"LentChanged$Town", "areAllBackAfterOneMore", "()Z"⟩, 5) := ⟨⟨by decide +kernel, by decide +kernel⟩, List.mem_of_getElem? (i := 41) (by decide +kernel), List.mem_of_getElem? (i := 581) (by decide +kernel), List.mem_of_getElem? (i := 582) (by decide +kernel)⟩
theorem lw_p7 : lw_okq (⟨"LentChanged$Rows", "lendToEach", "(I)V"⟩, 5) := ⟨⟨by decide +kernel, by decide +kernel⟩, List.mem_of_getElem? (i := 158) (by decide +kernel), List.mem_of_getElem? (i := 598) (by decide +kernel), List.mem_of_getElem? (i := 599) (by decide +kernel)⟩
theorem lw_p8 : lw_okq (⟨"LentChanged$Rows", "stepOn", "()V"⟩, 5) := ⟨⟨by decide +kernel, by decide +kernel⟩, List.mem_of_getElem? (i := 158) (by decide +kernel), List.mem_of_getElem? (i := 603) (by decide +kernel), List.mem_of_getElem? (i := 604) (by decide +kernel)⟩
theorem lw_p9 : lw_okq (⟨"LentChanged$Things", "drawOf", "(I)I"⟩, 8) := ⟨⟨by decide +kernel, by decide +kernel⟩, List.mem_of_getElem? (i := 70) (by decide +kernel), List.mem_of_getElem? (i := 623) (by decide +kernel), List.mem_of_getElem? (i := 624) (by decide +kernel)⟩
theorem lw_p10 : lw_okq (⟨"LentChanged$Things", "traitsOf", "([I)I"⟩, 8) := ⟨⟨by decide +kernel, by decide +kernel⟩, List.mem_of_getElem? (i := 70) (by decide +kernel), List.mem_of_getElem? (i := 639) (by decide +kernel), List.mem_of_getElem? (i := 640) (by decide +kernel)⟩
theorem lw_p11 : lw_okq (⟨"LentChanged", "mixedThing", "(JI)J"⟩, 11) := ⟨⟨by decide +kernel, by decide +kernel⟩, List.mem_of_getElem? (i := 17) (by decide +kernel), List.mem_of_getElem? (i := 677) (by decide +kernel), List.mem_of_getElem? (i := 678) (by decide +kernel)⟩
theorem lw_p12 : lw_okq (⟨"LentChangedModel", "readTown", "()V"⟩, 37) := ⟨⟨by decide +kernel, by decide +kernel⟩, List.mem_of_getElem? (i := 689) (by decide +kernel), List.mem_of_getElem? (i := 823) (by decide +kernel), List.mem_of_getElem? (i := 824) (by decide +kernel)⟩
theorem lw_p13 : lw_okq (⟨"LentChangedModel", "isGood", "(I)Z"⟩, 37) := ⟨⟨by decide +kernel, by decide +kernel⟩, List.mem_of_getElem? (i := 689) (by decide +kernel), List.mem_of_getElem? (i := 827) (by decide +kernel), List.mem_of_getElem? (i := 828) (by decide +kernel)⟩
theorem lw_p14 : lw_okq (⟨"LentChangedModel", "readRound", "()V"⟩, 37) := ⟨⟨by decide +kernel, by decide +kernel⟩, List.mem_of_getElem? (i := 689) (by decide +kernel), List.mem_of_getElem? (i := 834) (by decide +kernel), List.mem_of_getElem? (i := 835) (by decide +kernel)⟩
theorem lw_p15 : lw_okq (⟨"LentChangedModel", "isBorrower", "(I)Z"⟩, 37) := ⟨⟨by decide +kernel, by decide +kernel⟩, List.mem_of_getElem? (i := 689) (by decide +kernel), List.mem_of_getElem? (i := 846) (by decide +kernel), List.mem_of_getElem? (i := 847) (by decide +kernel)⟩
def lw_privs_1 : List (MethodName × Nat) := [(⟨"LentChanged$Page", "fitsTown", "(I)Z"⟩, 2), (⟨"LentChanged$Things", "takeBack", "(ILLentChanged$Town;)V"⟩, 8), (⟨"LentChanged$Ways", "begin", "(I)V"⟩, 9), (⟨"LentChanged$Ways", "addAllOf", "(I)V"⟩, 9), (⟨"LentChanged$Ways", "addLoan", "(III)V"⟩, 9), (⟨"LentChanged$Spoiling", "isSafeWithout", "(IIII)Z"⟩, 4), (⟨"LentChanged$Town", "areAllBackAfterOneMore", "()Z"⟩, 5), (⟨"LentChanged$Rows", "lendToEach", "(I)V"⟩, 5), (⟨"LentChanged$Rows", "stepOn", "()V"⟩, 5), (⟨"LentChanged$Things", "drawOf", "(I)I"⟩, 8), (⟨"LentChanged$Things", "traitsOf", "([I)I"⟩, 8), (⟨"LentChanged", "mixedThing", "(JI)J"⟩, 11), (⟨"LentChangedModel", "readTown", "()V"⟩, 37), (⟨"LentChangedModel", "isGood", "(I)Z"⟩, 37), (⟨"LentChangedModel", "readRound", "()V"⟩, 37), (⟨"LentChangedModel", "isBorrower", "(I)Z"⟩, 37)]
theorem lw_r1 : ∀ q ∈ lw_privs_1, lw_okq q := List.forall_mem_cons.mpr ⟨lw_p0, List.forall_mem_cons.mpr ⟨lw_p1, List.forall_mem_cons.mpr ⟨lw_p2, List.forall_mem_cons.mpr ⟨lw_p3, List.forall_mem_cons.mpr ⟨lw_p4, List.forall_mem_cons.mpr ⟨lw_p5, List.forall_mem_cons.mpr ⟨lw_p6, List.forall_mem_cons.mpr ⟨lw_p7, List.forall_mem_cons.mpr ⟨lw_p8, List.forall_mem_cons.mpr ⟨lw_p9, List.forall_mem_cons.mpr ⟨lw_p10, List.forall_mem_cons.mpr ⟨lw_p11, List.forall_mem_cons.mpr ⟨lw_p12, List.forall_mem_cons.mpr ⟨lw_p13, List.forall_mem_cons.mpr ⟨lw_p14, List.forall_mem_cons.mpr ⟨lw_p15, fun _ h => absurd h List.not_mem_nil⟩⟩⟩⟩⟩⟩⟩⟩⟩⟩⟩⟩⟩⟩⟩⟩
theorem lw_p16 : lw_okq (⟨"LentChangedModel", "borrowerNow", "(II)I"⟩, 37) := ⟨⟨by decide +kernel, by decide +kernel⟩, List.mem_of_getElem? (i := 689) (by decide +kernel), List.mem_of_getElem? (i := 850) (by decide +kernel), List.mem_of_getElem? (i := 851) (by decide +kernel)⟩
theorem lw_p17 : lw_okq (⟨"LentChangedModel", "whoseThing", "(I)I"⟩, 37) := ⟨⟨by decide +kernel, by decide +kernel⟩, List.mem_of_getElem? (i := 689) (by decide +kernel), List.mem_of_getElem? (i := 854) (by decide +kernel), List.mem_of_getElem? (i := 855) (by decide +kernel)⟩
theorem lw_p18 : lw_okq (⟨"LentChangedModel", "isThing", "(I)Z"⟩, 37) := ⟨⟨by decide +kernel, by decide +kernel⟩, List.mem_of_getElem? (i := 689) (by decide +kernel), List.mem_of_getElem? (i := 873) (by decide +kernel), List.mem_of_getElem? (i := 874) (by decide +kernel)⟩
theorem lw_p19 : lw_okq (⟨"LentChangedModel", "thingNow", "(II)I"⟩, 37) := ⟨⟨by decide +kernel, by decide +kernel⟩, List.mem_of_getElem? (i := 689) (by decide +kernel), List.mem_of_getElem? (i := 877) (by decide +kernel), List.mem_of_getElem? (i := 878) (by decide +kernel)⟩
theorem lw_p20 : lw_okq (⟨"LentChangedModel", "homeState", "(I)I"⟩, 37) := ⟨⟨by decide +kernel, by decide +kernel⟩, List.mem_of_getElem? (i := 689) (by decide +kernel), List.mem_of_getElem? (i := 881) (by decide +kernel), List.mem_of_getElem? (i := 882) (by decide +kernel)⟩
theorem lw_p21 : lw_okq (⟨"LentChangedModel", "made", "(II)I"⟩, 37) := ⟨⟨by decide +kernel, by decide +kernel⟩, List.mem_of_getElem? (i := 689) (by decide +kernel), List.mem_of_getElem? (i := 885) (by decide +kernel), List.mem_of_getElem? (i := 886) (by decide +kernel)⟩
theorem lw_p22 : lw_okq (⟨"LentChangedModel", "wishedNow", "(III)I"⟩, 37) := ⟨⟨by decide +kernel, by decide +kernel⟩, List.mem_of_getElem? (i := 689) (by decide +kernel), List.mem_of_getElem? (i := 911) (by decide +kernel), List.mem_of_getElem? (i := 912) (by decide +kernel)⟩
theorem lw_p23 : lw_okq (⟨"LentChangedModel", "layWaves", "(IZI)V"⟩, 37) := ⟨⟨by decide +kernel, by decide +kernel⟩, List.mem_of_getElem? (i := 689) (by decide +kernel), List.mem_of_getElem? (i := 915) (by decide +kernel), List.mem_of_getElem? (i := 916) (by decide +kernel)⟩
theorem lw_p24 : lw_okq (⟨"LentChangedModel", "goFrom", "(IZI)Z"⟩, 37) := ⟨⟨by decide +kernel, by decide +kernel⟩, List.mem_of_getElem? (i := 689) (by decide +kernel), List.mem_of_getElem? (i := 920) (by decide +kernel), List.mem_of_getElem? (i := 921) (by decide +kernel)⟩
theorem lw_p25 : lw_okq (⟨"LentChangedModel", "reachNow", "(I)I"⟩, 37) := ⟨⟨by decide +kernel, by decide +kernel⟩, List.mem_of_getElem? (i := 689) (by decide +kernel), List.mem_of_getElem? (i := 928) (by decide +kernel), List.mem_of_getElem? (i := 929) (by decide +kernel)⟩
theorem lw_p26 : lw_okq (⟨"LentChangedModel", "spoilersNow", "(III)I"⟩, 37) := ⟨⟨by decide +kernel, by decide +kernel⟩, List.mem_of_getElem? (i := 689) (by decide +kernel), List.mem_of_getElem? (i := 936) (by decide +kernel), List.mem_of_getElem? (i := 937) (by decide +kernel)⟩
theorem lw_p27 : lw_okq (⟨"LentChangedModel", "isSafe", "(IIII)Z"⟩, 37) := ⟨⟨by decide +kernel, by decide +kernel⟩, List.mem_of_getElem? (i := 689) (by decide +kernel), List.mem_of_getElem? (i := 943) (by decide +kernel), List.mem_of_getElem? (i := 944) (by decide +kernel)⟩
theorem lw_p28 : lw_okq (⟨"LentChangedModel", "backNow", "()I"⟩, 37) := ⟨⟨by decide +kernel, by decide +kernel⟩, List.mem_of_getElem? (i := 689) (by decide +kernel), List.mem_of_getElem? (i := 951) (by decide +kernel), List.mem_of_getElem? (i := 952) (by decide +kernel)⟩
theorem lw_p29 : lw_okq (⟨"LentChangedModel", "endsOf", "(I)I"⟩, 37) := ⟨⟨by decide +kernel, by decide +kernel⟩, List.mem_of_getElem? (i := 689) (by decide +kernel), List.mem_of_getElem? (i := 955) (by decide +kernel), List.mem_of_getElem? (i := 956) (by decide +kernel)⟩
theorem lw_p30 : lw_okq (⟨"LentChangedModel", "handsNow", "(IIII)I"⟩, 37) := ⟨⟨by decide +kernel, by decide +kernel⟩, List.mem_of_getElem? (i := 689) (by decide +kernel), List.mem_of_getElem? (i := 963) (by decide +kernel), List.mem_of_getElem? (i := 964) (by decide +kernel)⟩
theorem lw_p31 : lw_okq (⟨"LentChangedModel", "rowsWithout", "(IIII)I"⟩, 37) := ⟨⟨by decide +kernel, by decide +kernel⟩, List.mem_of_getElem? (i := 689) (by decide +kernel), List.mem_of_getElem? (i := 967) (by decide +kernel), List.mem_of_getElem? (i := 968) (by decide +kernel)⟩
def lw_privs_2 : List (MethodName × Nat) := [(⟨"LentChangedModel", "borrowerNow", "(II)I"⟩, 37), (⟨"LentChangedModel", "whoseThing", "(I)I"⟩, 37), (⟨"LentChangedModel", "isThing", "(I)Z"⟩, 37), (⟨"LentChangedModel", "thingNow", "(II)I"⟩, 37), (⟨"LentChangedModel", "homeState", "(I)I"⟩, 37), (⟨"LentChangedModel", "made", "(II)I"⟩, 37), (⟨"LentChangedModel", "wishedNow", "(III)I"⟩, 37), (⟨"LentChangedModel", "layWaves", "(IZI)V"⟩, 37), (⟨"LentChangedModel", "goFrom", "(IZI)Z"⟩, 37), (⟨"LentChangedModel", "reachNow", "(I)I"⟩, 37), (⟨"LentChangedModel", "spoilersNow", "(III)I"⟩, 37), (⟨"LentChangedModel", "isSafe", "(IIII)Z"⟩, 37), (⟨"LentChangedModel", "backNow", "()I"⟩, 37), (⟨"LentChangedModel", "endsOf", "(I)I"⟩, 37), (⟨"LentChangedModel", "handsNow", "(IIII)I"⟩, 37), (⟨"LentChangedModel", "rowsWithout", "(IIII)I"⟩, 37)]
theorem lw_r2 : ∀ q ∈ lw_privs_2, lw_okq q := List.forall_mem_cons.mpr ⟨lw_p16, List.forall_mem_cons.mpr ⟨lw_p17, List.forall_mem_cons.mpr ⟨lw_p18, List.forall_mem_cons.mpr ⟨lw_p19, List.forall_mem_cons.mpr ⟨lw_p20, List.forall_mem_cons.mpr ⟨lw_p21, List.forall_mem_cons.mpr ⟨lw_p22, List.forall_mem_cons.mpr ⟨lw_p23, List.forall_mem_cons.mpr ⟨lw_p24, List.forall_mem_cons.mpr ⟨lw_p25, List.forall_mem_cons.mpr ⟨lw_p26, List.forall_mem_cons.mpr ⟨lw_p27, List.forall_mem_cons.mpr ⟨lw_p28, List.forall_mem_cons.mpr ⟨lw_p29, List.forall_mem_cons.mpr ⟨lw_p30, List.forall_mem_cons.mpr ⟨lw_p31, fun _ h => absurd h List.not_mem_nil⟩⟩⟩⟩⟩⟩⟩⟩⟩⟩⟩⟩⟩⟩⟩⟩
theorem lw_p32 : lw_okq (⟨"LentChangedModel", "yearsNow", "(III)I"⟩, 37) := ⟨⟨by decide +kernel, by decide +kernel⟩, List.mem_of_getElem? (i := 689) (by decide +kernel), List.mem_of_getElem? (i := 975) (by decide +kernel), List.mem_of_getElem? (i := 976) (by decide +kernel)⟩
theorem lw_p33 : lw_okq (⟨"LentChangedModel", "draw", "(I)I"⟩, 37) := ⟨⟨by decide +kernel, by decide +kernel⟩, List.mem_of_getElem? (i := 689) (by decide +kernel), List.mem_of_getElem? (i := 979) (by decide +kernel), List.mem_of_getElem? (i := 980) (by decide +kernel)⟩
theorem lw_p34 : lw_okq (⟨"LentChangedModel", "howMany", "(I)I"⟩, 37) := ⟨⟨by decide +kernel, by decide +kernel⟩, List.mem_of_getElem? (i := 689) (by decide +kernel), List.mem_of_getElem? (i := 1002) (by decide +kernel), List.mem_of_getElem? (i := 1003) (by decide +kernel)⟩
theorem lw_p35 : lw_okq (⟨"LentChangedModel", "lentMany", "()I"⟩, 37) := ⟨⟨by decide +kernel, by decide +kernel⟩, List.mem_of_getElem? (i := 689) (by decide +kernel), List.mem_of_getElem? (i := 1006) (by decide +kernel), List.mem_of_getElem? (i := 1007) (by decide +kernel)⟩
theorem lw_p36 : lw_okq (⟨"LentChangedModel", "traitsAll", "()I"⟩, 37) := ⟨⟨by decide +kernel, by decide +kernel⟩, List.mem_of_getElem? (i := 689) (by decide +kernel), List.mem_of_getElem? (i := 1010) (by decide +kernel), List.mem_of_getElem? (i := 1011) (by decide +kernel)⟩
theorem lw_p37 : lw_okq (⟨"LentChangedModel", "mix", "(J)V"⟩, 37) := ⟨⟨by decide +kernel, by decide +kernel⟩, List.mem_of_getElem? (i := 689) (by decide +kernel), List.mem_of_getElem? (i := 1019) (by decide +kernel), List.mem_of_getElem? (i := 1020) (by decide +kernel)⟩
theorem lw_p38 : lw_okq (⟨"LentChangedModel", "mixThing", "(I)V"⟩, 37) := ⟨⟨by decide +kernel, by decide +kernel⟩, List.mem_of_getElem? (i := 689) (by decide +kernel), List.mem_of_getElem? (i := 1024) (by decide +kernel), List.mem_of_getElem? (i := 1025) (by decide +kernel)⟩
def lw_privs_3 : List (MethodName × Nat) := [(⟨"LentChangedModel", "yearsNow", "(III)I"⟩, 37), (⟨"LentChangedModel", "draw", "(I)I"⟩, 37), (⟨"LentChangedModel", "howMany", "(I)I"⟩, 37), (⟨"LentChangedModel", "lentMany", "()I"⟩, 37), (⟨"LentChangedModel", "traitsAll", "()I"⟩, 37), (⟨"LentChangedModel", "mix", "(J)V"⟩, 37), (⟨"LentChangedModel", "mixThing", "(I)V"⟩, 37)]
theorem lw_r3 : ∀ q ∈ lw_privs_3, lw_okq q := List.forall_mem_cons.mpr ⟨lw_p32, List.forall_mem_cons.mpr ⟨lw_p33, List.forall_mem_cons.mpr ⟨lw_p34, List.forall_mem_cons.mpr ⟨lw_p35, List.forall_mem_cons.mpr ⟨lw_p36, List.forall_mem_cons.mpr ⟨lw_p37, List.forall_mem_cons.mpr ⟨lw_p38, fun _ h => absurd h List.not_mem_nil⟩⟩⟩⟩⟩⟩⟩
def lw_privs : List (MethodName × Nat) := lw_privs_1 ++ (lw_privs_2 ++ (lw_privs_3))
def lw_tbl : List Cond := k2_sels lw_privs ++ tables_1
theorem lw_privs_ok : ∀ q ∈ lw_privs, lw_okq q := by
  show ∀ q ∈ lw_privs_1 ++ (lw_privs_2 ++ (lw_privs_3)), lw_okq q
  exact List.forall_mem_append.mpr ⟨lw_r1, List.forall_mem_append.mpr ⟨lw_r2, lw_r3⟩⟩
def R_law : String := "LentChangedLaw"
def RX0 : String := "LentChanged$Adder"
def TX0 : u_T := fun k => match k with
  | 0 => ("LentChanged$Adder", "trait", "I", true)
  | 1 => ("LentChanged$Adder", "much", "I", true)
  | _ => ("LentChanged$Adder", "days", "I", true)
def tyX0 : Nat → FieldType := fun k => match k with
  | 0 => .int
  | 1 => .int
  | _ => .int
abbrev wsX00 : List Cond := u_ws RX0 TX0 3
theorem nmX0 : ∀ a, a < 3 → ∀ b, b < 3 → a ≠ b → (TX0 a).2.1 ≠ (TX0 b).2.1 := by decide +kernel
theorem tyX0_ok : ∀ k, k < 3 → parseFieldDescriptor (TX0 k).2.2.1 = some (tyX0 k) := by decide +kernel
abbrev cX0_init : ByteArray := prog_2_method_1_code
def yX0_init : MethodName := ⟨RX0, "<init>", "(III)V"⟩
abbrev cX0_kind : ByteArray := prog_2_method_2_code
def yX0_kind : MethodName := ⟨RX0, "kind", "()I"⟩
abbrev cX0_changed : ByteArray := prog_2_method_3_code
def yX0_changed : MethodName := ⟨RX0, "changed", "(I)I"⟩
abbrev cX0_stateAfter : ByteArray := prog_2_method_4_code
def yX0_stateAfter : MethodName := ⟨RX0, "stateAfter", "(I)I"⟩
def RX1 : String := "LentChanged$Doubler"
def TX1 : u_T := fun k => match k with
  | 0 => ("LentChanged$Adder", "trait", "I", true)
  | 1 => ("LentChanged$Adder", "much", "I", true)
  | _ => ("LentChanged$Adder", "days", "I", true)
def tyX1 : Nat → FieldType := fun k => match k with
  | 0 => .int
  | 1 => .int
  | _ => .int
abbrev wsX10 : List Cond := u_ws RX1 TX1 3
theorem nmX1 : ∀ a, a < 3 → ∀ b, b < 3 → a ≠ b → (TX1 a).2.1 ≠ (TX1 b).2.1 := by decide +kernel
theorem tyX1_ok : ∀ k, k < 3 → parseFieldDescriptor (TX1 k).2.2.1 = some (tyX1 k) := by decide +kernel
abbrev cX1_init : ByteArray := prog_3_method_1_code
def yX1_init : MethodName := ⟨RX1, "<init>", "(III)V"⟩
abbrev cX1_kind : ByteArray := prog_3_method_2_code
def yX1_kind : MethodName := ⟨RX1, "kind", "()I"⟩
abbrev cX1_changed : ByteArray := prog_3_method_3_code
def yX1_changed : MethodName := ⟨RX1, "changed", "(I)I"⟩
def RX2 : String := "LentChanged$Page"
def TX2 : u_T := fun k => match k with
  | 0 => ("LentChanged$Page", "codes", "[I", true)
  | _ => ("LentChanged$Page", "length", "I", false)
def tyX2 : Nat → FieldType := fun k => match k with
  | 0 => .array .int
  | _ => .int
abbrev wsX20 : List Cond := u_ws RX2 TX2 2
theorem nmX2 : ∀ a, a < 2 → ∀ b, b < 2 → a ≠ b → (TX2 a).2.1 ≠ (TX2 b).2.1 := by decide +kernel
theorem tyX2_ok : ∀ k, k < 2 → parseFieldDescriptor (TX2 k).2.2.1 = some (tyX2 k) := by decide +kernel
abbrev cX2_init : ByteArray := prog_4_method_1_code
def yX2_init : MethodName := ⟨RX2, "<init>", "()V"⟩
abbrev cX2_add : ByteArray := prog_4_method_2_code
def yX2_add : MethodName := ⟨RX2, "add", "(I)V"⟩
abbrev cX2_codeAt : ByteArray := prog_4_method_3_code
def yX2_codeAt : MethodName := ⟨RX2, "codeAt", "(I)I"⟩
abbrev cX2_digitAt : ByteArray := prog_4_method_4_code
def yX2_digitAt : MethodName := ⟨RX2, "digitAt", "(I)I"⟩
abbrev cX2_faultOfTown : ByteArray := prog_4_method_5_code
def yX2_faultOfTown : MethodName := ⟨RX2, "faultOfTown", "()I"⟩
abbrev cX2_faultOfRound : ByteArray := prog_4_method_6_code
def yX2_faultOfRound : MethodName := ⟨RX2, "faultOfRound", "(I)I"⟩
abbrev cX2_isTown : ByteArray := prog_4_method_7_code
def yX2_isTown : MethodName := ⟨RX2, "isTown", "()Z"⟩
abbrev cX2_isRound : ByteArray := prog_4_method_8_code
def yX2_isRound : MethodName := ⟨RX2, "isRound", "(I)Z"⟩
abbrev cX2_borrowers : ByteArray := prog_4_method_9_code
def yX2_borrowers : MethodName := ⟨RX2, "borrowers", "()I"⟩
abbrev cX2_borrowerFrom : ByteArray := prog_4_method_10_code
def yX2_borrowerFrom : MethodName := ⟨RX2, "borrowerFrom", "(I)LLentChanged$Adder;"⟩
abbrev cX2_fitsTown : ByteArray := prog_4_method_11_code
def yX2_fitsTown : MethodName := ⟨RX2, "fitsTown", "(I)Z"⟩
def RX3 : String := "LentChanged$Rows"
def TX3 : u_T := fun k => match k with
  | 0 => ("LentChanged$Rows", "people", "LLentChanged$Town;", true)
  | 1 => ("LentChanged$Rows", "many", "[I", false)
  | 2 => ("LentChanged$Rows", "inEach", "[I", false)
  | 3 => ("LentChanged$Rows", "manyNext", "[I", false)
  | _ => ("LentChanged$Rows", "inEachNext", "[I", false)
def tyX3 : Nat → FieldType := fun k => match k with
  | 0 => .object "LentChanged$Town"
  | 1 => .array .int
  | 2 => .array .int
  | 3 => .array .int
  | _ => .array .int
abbrev wsX30 : List Cond := u_ws RX3 TX3 5
theorem nmX3 : ∀ a, a < 5 → ∀ b, b < 5 → a ≠ b → (TX3 a).2.1 ≠ (TX3 b).2.1 := by decide +kernel
theorem tyX3_ok : ∀ k, k < 5 → parseFieldDescriptor (TX3 k).2.2.1 = some (tyX3 k) := by decide +kernel
abbrev cX3_init : ByteArray := prog_5_method_1_code
def yX3_init : MethodName := ⟨RX3, "<init>", "(LLentChanged$Town;)V"⟩
abbrev cX3_howManyTo : ByteArray := prog_5_method_2_code
def yX3_howManyTo : MethodName := ⟨RX3, "howManyTo", "(I)I"⟩
abbrev cX3_inEachTo : ByteArray := prog_5_method_3_code
def yX3_inEachTo : MethodName := ⟨RX3, "inEachTo", "(I)I"⟩
abbrev cX3_follow : ByteArray := prog_5_method_4_code
def yX3_follow : MethodName := ⟨RX3, "follow", "(II)V"⟩
abbrev cX3_lendToEach : ByteArray := prog_5_method_5_code
def yX3_lendToEach : MethodName := ⟨RX3, "lendToEach", "(I)V"⟩
abbrev cX3_stepOn : ByteArray := prog_5_method_6_code
def yX3_stepOn : MethodName := ⟨RX3, "stepOn", "()V"⟩
def RX4 : String := "LentChanged$Setter"
def TX4 : u_T := fun k => match k with
  | 0 => ("LentChanged$Adder", "trait", "I", true)
  | 1 => ("LentChanged$Adder", "much", "I", true)
  | _ => ("LentChanged$Adder", "days", "I", true)
def tyX4 : Nat → FieldType := fun k => match k with
  | 0 => .int
  | 1 => .int
  | _ => .int
abbrev wsX40 : List Cond := u_ws RX4 TX4 3
theorem nmX4 : ∀ a, a < 3 → ∀ b, b < 3 → a ≠ b → (TX4 a).2.1 ≠ (TX4 b).2.1 := by decide +kernel
theorem tyX4_ok : ∀ k, k < 3 → parseFieldDescriptor (TX4 k).2.2.1 = some (tyX4 k) := by decide +kernel
abbrev cX4_init : ByteArray := prog_6_method_1_code
def yX4_init : MethodName := ⟨RX4, "<init>", "(III)V"⟩
abbrev cX4_kind : ByteArray := prog_6_method_2_code
def yX4_kind : MethodName := ⟨RX4, "kind", "()I"⟩
abbrev cX4_changed : ByteArray := prog_6_method_3_code
def yX4_changed : MethodName := ⟨RX4, "changed", "(I)I"⟩
def RX5 : String := "LentChanged$Spoiling"
def TX5 : u_T := fun k => match k with
  | 0 => ("LentChanged$Spoiling", "people", "LLentChanged$Town;", true)
  | 1 => ("LentChanged$Spoiling", "queue", "[I", true)
  | 2 => ("LentChanged$Spoiling", "seen", "[I", true)
  | _ => ("LentChanged$Spoiling", "search", "I", false)
def tyX5 : Nat → FieldType := fun k => match k with
  | 0 => .object "LentChanged$Town"
  | 1 => .array .int
  | 2 => .array .int
  | _ => .int
abbrev wsX50 : List Cond := u_ws RX5 TX5 4
theorem nmX5 : ∀ a, a < 4 → ∀ b, b < 4 → a ≠ b → (TX5 a).2.1 ≠ (TX5 b).2.1 := by decide +kernel
theorem tyX5_ok : ∀ k, k < 4 → parseFieldDescriptor (TX5 k).2.2.1 = some (tyX5 k) := by decide +kernel
abbrev cX5_init : ByteArray := prog_7_method_1_code
def yX5_init : MethodName := ⟨RX5, "<init>", "(LLentChanged$Town;)V"⟩
abbrev cX5_fewest : ByteArray := prog_7_method_2_code
def yX5_fewest : MethodName := ⟨RX5, "fewest", "(III)I"⟩
abbrev cX5_isSafeWithout : ByteArray := prog_7_method_3_code
def yX5_isSafeWithout : MethodName := ⟨RX5, "isSafeWithout", "(IIII)Z"⟩
def RX6 : String := "LentChanged$Swapper"
def TX6 : u_T := fun k => match k with
  | 0 => ("LentChanged$Adder", "trait", "I", true)
  | 1 => ("LentChanged$Adder", "much", "I", true)
  | _ => ("LentChanged$Adder", "days", "I", true)
def tyX6 : Nat → FieldType := fun k => match k with
  | 0 => .int
  | 1 => .int
  | _ => .int
abbrev wsX60 : List Cond := u_ws RX6 TX6 3
theorem nmX6 : ∀ a, a < 3 → ∀ b, b < 3 → a ≠ b → (TX6 a).2.1 ≠ (TX6 b).2.1 := by decide +kernel
theorem tyX6_ok : ∀ k, k < 3 → parseFieldDescriptor (TX6 k).2.2.1 = some (tyX6 k) := by decide +kernel
abbrev cX6_init : ByteArray := prog_8_method_1_code
def yX6_init : MethodName := ⟨RX6, "<init>", "(III)V"⟩
abbrev cX6_kind : ByteArray := prog_8_method_2_code
def yX6_kind : MethodName := ⟨RX6, "kind", "()I"⟩
abbrev cX6_stateAfter : ByteArray := prog_8_method_3_code
def yX6_stateAfter : MethodName := ⟨RX6, "stateAfter", "(I)I"⟩
def RX7 : String := "LentChanged$Things"
def TX7 : u_T := fun k => match k with
  | 0 => ("LentChanged$Things", "states", "[I", true)
  | 1 => ("LentChanged$Things", "holders", "[I", true)
  | 2 => ("LentChanged$Things", "daysLeft", "[I", true)
  | 3 => ("LentChanged$Things", "returns", "[I", true)
  | 4 => ("LentChanged$Things", "size", "I", false)
  | 5 => ("LentChanged$Things", "days", "I", false)
  | 6 => ("LentChanged$Things", "statesThen", "[I", true)
  | _ => ("LentChanged$Things", "seedThen", "I", false)
def tyX7 : Nat → FieldType := fun k => match k with
  | 0 => .array .int
  | 1 => .array .int
  | 2 => .array .int
  | 3 => .array .int
  | 4 => .int
  | 5 => .int
  | 6 => .array .int
  | _ => .int
abbrev wsX70 : List Cond := u_ws RX7 TX7 8
theorem nmX7 : ∀ a, a < 8 → ∀ b, b < 8 → a ≠ b → (TX7 a).2.1 ≠ (TX7 b).2.1 := by decide +kernel
theorem tyX7_ok : ∀ k, k < 8 → parseFieldDescriptor (TX7 k).2.2.1 = some (tyX7 k) := by decide +kernel
abbrev cX7_init : ByteArray := prog_9_method_1_code
def yX7_init : MethodName := ⟨RX7, "<init>", "()V"⟩
abbrev cX7_empty : ByteArray := prog_9_method_2_code
def yX7_empty : MethodName := ⟨RX7, "empty", "()V"⟩
abbrev cX7_copyFrom : ByteArray := prog_9_method_3_code
def yX7_copyFrom : MethodName := ⟨RX7, "copyFrom", "(LLentChanged$Things;)V"⟩
abbrev cX7_has : ByteArray := prog_9_method_4_code
def yX7_has : MethodName := ⟨RX7, "has", "(I)Z"⟩
abbrev cX7_stateOf : ByteArray := prog_9_method_5_code
def yX7_stateOf : MethodName := ⟨RX7, "stateOf", "(I)I"⟩
abbrev cX7_holderOf : ByteArray := prog_9_method_6_code
def yX7_holderOf : MethodName := ⟨RX7, "holderOf", "(I)I"⟩
abbrev cX7_returnsOf : ByteArray := prog_9_method_7_code
def yX7_returnsOf : MethodName := ⟨RX7, "returnsOf", "(I)I"⟩
abbrev cX7_isLent : ByteArray := prog_9_method_8_code
def yX7_isLent : MethodName := ⟨RX7, "isLent", "(I)Z"⟩
abbrev cX7_stateAtHome : ByteArray := prog_9_method_9_code
def yX7_stateAtHome : MethodName := ⟨RX7, "stateAtHome", "(ILLentChanged$Town;)I"⟩
abbrev cX7_add : ByteArray := prog_9_method_10_code
def yX7_add : MethodName := ⟨RX7, "add", "(I)I"⟩
abbrev cX7_give : ByteArray := prog_9_method_11_code
def yX7_give : MethodName := ⟨RX7, "give", "(III)V"⟩
abbrev cX7_numberHeldBy : ByteArray := prog_9_method_12_code
def yX7_numberHeldBy : MethodName := ⟨RX7, "numberHeldBy", "(I)I"⟩
abbrev cX7_daysLeftAt : ByteArray := prog_9_method_13_code
def yX7_daysLeftAt : MethodName := ⟨RX7, "daysLeftAt", "(I)I"⟩
abbrev cX7_passDay : ByteArray := prog_9_method_14_code
def yX7_passDay : MethodName := ⟨RX7, "passDay", "(LLentChanged$Town;)I"⟩
abbrev cX7_howManyLent : ByteArray := prog_9_method_15_code
def yX7_howManyLent : MethodName := ⟨RX7, "howManyLent", "()I"⟩
abbrev cX7_traitsTogether : ByteArray := prog_9_method_16_code
def yX7_traitsTogether : MethodName := ⟨RX7, "traitsTogether", "()I"⟩
abbrev cX7_dreamYears : ByteArray := prog_9_method_17_code
def yX7_dreamYears : MethodName := ⟨RX7, "dreamYears", "(LLentChanged$Town;II)V"⟩
abbrev cX7_stateOfFirstThen : ByteArray := prog_9_method_18_code
def yX7_stateOfFirstThen : MethodName := ⟨RX7, "stateOfFirstThen", "()I"⟩
abbrev cX7_traitsTogetherThen : ByteArray := prog_9_method_19_code
def yX7_traitsTogetherThen : MethodName := ⟨RX7, "traitsTogetherThen", "()I"⟩
abbrev cX7_takeBack : ByteArray := prog_9_method_20_code
def yX7_takeBack : MethodName := ⟨RX7, "takeBack", "(ILLentChanged$Town;)V"⟩
abbrev cX7_traitsOf : ByteArray := prog_9_method_21_code
def yX7_traitsOf : MethodName := ⟨RX7, "traitsOf", "([I)I"⟩
abbrev cX7_drawOf : ByteArray := prog_9_method_22_code
def yX7_drawOf : MethodName := ⟨RX7, "drawOf", "(I)I"⟩
def RX8 : String := "LentChanged$Town"
def TX8 : u_T := fun k => match k with
  | 0 => ("LentChanged$Town", "borrowers", "[LLentChanged$Adder;", true)
  | 1 => ("LentChanged$Town", "afters", "[I", true)
  | 2 => ("LentChanged$Town", "once", "[I", true)
  | 3 => ("LentChanged$Town", "now", "[I", true)
  | _ => ("LentChanged$Town", "size", "I", false)
def tyX8 : Nat → FieldType := fun k => match k with
  | 0 => .array (.object "LentChanged$Adder")
  | 1 => .array .int
  | 2 => .array .int
  | 3 => .array .int
  | _ => .int
abbrev wsX80 : List Cond := u_ws RX8 TX8 5
theorem nmX8 : ∀ a, a < 5 → ∀ b, b < 5 → a ≠ b → (TX8 a).2.1 ≠ (TX8 b).2.1 := by decide +kernel
theorem tyX8_ok : ∀ k, k < 5 → parseFieldDescriptor (TX8 k).2.2.1 = some (tyX8 k) := by decide +kernel
abbrev cX8_init : ByteArray := prog_10_method_1_code
def yX8_init : MethodName := ⟨RX8, "<init>", "()V"⟩
abbrev cX8_read : ByteArray := prog_10_method_2_code
def yX8_read : MethodName := ⟨RX8, "read", "(LLentChanged$Page;)V"⟩
abbrev cX8_borrowerAt : ByteArray := prog_10_method_3_code
def yX8_borrowerAt : MethodName := ⟨RX8, "borrowerAt", "(I)LLentChanged$Adder;"⟩
abbrev cX8_daysOf : ByteArray := prog_10_method_4_code
def yX8_daysOf : MethodName := ⟨RX8, "daysOf", "(I)I"⟩
abbrev cX8_after : ByteArray := prog_10_method_5_code
def yX8_after : MethodName := ⟨RX8, "after", "(II)I"⟩
abbrev cX8_endOf : ByteArray := prog_10_method_6_code
def yX8_endOf : MethodName := ⟨RX8, "endOf", "(LLentChanged$Page;I)I"⟩
abbrev cX8_timesUntilBack : ByteArray := prog_10_method_7_code
def yX8_timesUntilBack : MethodName := ⟨RX8, "timesUntilBack", "(LLentChanged$Page;)I"⟩
abbrev cX8_areAllBackAfterOneMore : ByteArray := prog_10_method_8_code
def yX8_areAllBackAfterOneMore : MethodName := ⟨RX8, "areAllBackAfterOneMore", "()Z"⟩
def RX9 : String := "LentChanged$Turner"
def TX9 : u_T := fun k => match k with
  | 0 => ("LentChanged$Adder", "trait", "I", true)
  | 1 => ("LentChanged$Adder", "much", "I", true)
  | _ => ("LentChanged$Adder", "days", "I", true)
def tyX9 : Nat → FieldType := fun k => match k with
  | 0 => .int
  | 1 => .int
  | _ => .int
abbrev wsX90 : List Cond := u_ws RX9 TX9 3
theorem nmX9 : ∀ a, a < 3 → ∀ b, b < 3 → a ≠ b → (TX9 a).2.1 ≠ (TX9 b).2.1 := by decide +kernel
theorem tyX9_ok : ∀ k, k < 3 → parseFieldDescriptor (TX9 k).2.2.1 = some (tyX9 k) := by decide +kernel
abbrev cX9_init : ByteArray := prog_11_method_1_code
def yX9_init : MethodName := ⟨RX9, "<init>", "(III)V"⟩
abbrev cX9_kind : ByteArray := prog_11_method_2_code
def yX9_kind : MethodName := ⟨RX9, "kind", "()I"⟩
abbrev cX9_changed : ByteArray := prog_11_method_3_code
def yX9_changed : MethodName := ⟨RX9, "changed", "(I)I"⟩
def RX10 : String := "LentChanged$Ways"
def TX10 : u_T := fun k => match k with
  | 0 => ("LentChanged$Ways", "people", "LLentChanged$Town;", true)
  | 1 => ("LentChanged$Ways", "isByDays", "Z", true)
  | 2 => ("LentChanged$Ways", "costs", "[I", true)
  | 3 => ("LentChanged$Ways", "firsts", "[I", true)
  | 4 => ("LentChanged$Ways", "order", "[I", true)
  | 5 => ("LentChanged$Ways", "begins", "[I", true)
  | 6 => ("LentChanged$Ways", "ends", "[I", true)
  | 7 => ("LentChanged$Ways", "start", "I", false)
  | _ => ("LentChanged$Ways", "found", "I", false)
def tyX10 : Nat → FieldType := fun k => match k with
  | 0 => .object "LentChanged$Town"
  | 1 => .boolean
  | 2 => .array .int
  | 3 => .array .int
  | 4 => .array .int
  | 5 => .array .int
  | 6 => .array .int
  | 7 => .int
  | _ => .int
abbrev wsX100 : List Cond := u_ws RX10 TX10 9
theorem nmX10 : ∀ a, a < 9 → ∀ b, b < 9 → a ≠ b → (TX10 a).2.1 ≠ (TX10 b).2.1 := by decide +kernel
theorem tyX10_ok : ∀ k, k < 9 → parseFieldDescriptor (TX10 k).2.2.1 = some (tyX10 k) := by decide +kernel
abbrev cX10_init : ByteArray := prog_12_method_1_code
def yX10_init : MethodName := ⟨RX10, "<init>", "(LLentChanged$Town;Z)V"⟩
abbrev cX10_forget : ByteArray := prog_12_method_2_code
def yX10_forget : MethodName := ⟨RX10, "forget", "()V"⟩
abbrev cX10_costOf : ByteArray := prog_12_method_3_code
def yX10_costOf : MethodName := ⟨RX10, "costOf", "(I)I"⟩
abbrev cX10_firstTo : ByteArray := prog_12_method_4_code
def yX10_firstTo : MethodName := ⟨RX10, "firstTo", "(I)I"⟩
abbrev cX10_searchFrom : ByteArray := prog_12_method_5_code
def yX10_searchFrom : MethodName := ⟨RX10, "searchFrom", "(I)V"⟩
abbrev cX10_begin : ByteArray := prog_12_method_6_code
def yX10_begin : MethodName := ⟨RX10, "begin", "(I)V"⟩
abbrev cX10_addAllOf : ByteArray := prog_12_method_7_code
def yX10_addAllOf : MethodName := ⟨RX10, "addAllOf", "(I)V"⟩
abbrev cX10_addLoan : ByteArray := prog_12_method_8_code
def yX10_addLoan : MethodName := ⟨RX10, "addLoan", "(III)V"⟩
def RX11 : String := "LentChanged"
def TX11 : u_T := fun k => match k with
  | 0 => ("LentChanged", "page", "LLentChanged$Page;", true)
  | 1 => ("LentChanged", "people", "LLentChanged$Town;", true)
  | 2 => ("LentChanged", "things", "LLentChanged$Things;", true)
  | 3 => ("LentChanged", "kept", "LLentChanged$Things;", true)
  | 4 => ("LentChanged", "fewestLoans", "LLentChanged$Ways;", true)
  | 5 => ("LentChanged", "fewestDays", "LLentChanged$Ways;", true)
  | 6 => ("LentChanged", "spoiling", "LLentChanged$Spoiling;", true)
  | 7 => ("LentChanged", "rows", "LLentChanged$Rows;", true)
  | 8 => ("LentChanged", "hasImage", "Z", false)
  | 9 => ("LentChanged", "townsRead", "I", false)
  | _ => ("LentChanged", "handsDone", "I", false)
def tyX11 : Nat → FieldType := fun k => match k with
  | 0 => .object "LentChanged$Page"
  | 1 => .object "LentChanged$Town"
  | 2 => .object "LentChanged$Things"
  | 3 => .object "LentChanged$Things"
  | 4 => .object "LentChanged$Ways"
  | 5 => .object "LentChanged$Ways"
  | 6 => .object "LentChanged$Spoiling"
  | 7 => .object "LentChanged$Rows"
  | 8 => .boolean
  | 9 => .int
  | _ => .int
abbrev wsX110 : List Cond := u_ws RX11 TX11 11
theorem nmX11 : ∀ a, a < 11 → ∀ b, b < 11 → a ≠ b → (TX11 a).2.1 ≠ (TX11 b).2.1 := by decide +kernel
theorem tyX11_ok : ∀ k, k < 11 → parseFieldDescriptor (TX11 k).2.2.1 = some (tyX11 k) := by decide +kernel
abbrev cX11_init : ByteArray := prog_1_method_1_code
def yX11_init : MethodName := ⟨RX11, "<init>", "()V"⟩
abbrev cX11_letter : ByteArray := prog_1_method_2_code
def yX11_letter : MethodName := ⟨RX11, "letter", "(I)I"⟩
abbrev cX11_blank : ByteArray := prog_1_method_3_code
def yX11_blank : MethodName := ⟨RX11, "blank", "()I"⟩
abbrev cX11_fault : ByteArray := prog_1_method_4_code
def yX11_fault : MethodName := ⟨RX11, "fault", "(I)I"⟩
abbrev cX11_town : ByteArray := prog_1_method_5_code
def yX11_town : MethodName := ⟨RX11, "town", "()I"⟩
abbrev cX11_about : ByteArray := prog_1_method_6_code
def yX11_about : MethodName := ⟨RX11, "about", "(II)I"⟩
abbrev cX11_as : ByteArray := prog_1_method_7_code
def yX11_as : MethodName := ⟨RX11, "as", "(II)I"⟩
abbrev cX11_thing : ByteArray := prog_1_method_8_code
def yX11_thing : MethodName := ⟨RX11, "thing", "(I)I"⟩
abbrev cX11_thingOf : ByteArray := prog_1_method_9_code
def yX11_thingOf : MethodName := ⟨RX11, "thingOf", "(II)I"⟩
abbrev cX11_lend : ByteArray := prog_1_method_10_code
def yX11_lend : MethodName := ⟨RX11, "lend", "(II)I"⟩
abbrev cX11_day : ByteArray := prog_1_method_11_code
def yX11_day : MethodName := ⟨RX11, "day", "()I"⟩
abbrev cX11_by : ByteArray := prog_1_method_12_code
def yX11_by : MethodName := ⟨RX11, "by", "(II)I"⟩
abbrev cX11_wished : ByteArray := prog_1_method_13_code
def yX11_wished : MethodName := ⟨RX11, "wished", "(III)I"⟩
abbrev cX11_reach : ByteArray := prog_1_method_14_code
def yX11_reach : MethodName := ⟨RX11, "reach", "(I)I"⟩
abbrev cX11_spoilers : ByteArray := prog_1_method_15_code
def yX11_spoilers : MethodName := ⟨RX11, "spoilers", "(III)I"⟩
abbrev cX11_round : ByteArray := prog_1_method_16_code
def yX11_round : MethodName := ⟨RX11, "round", "(II)I"⟩
abbrev cX11_hands : ByteArray := prog_1_method_17_code
def yX11_hands : MethodName := ⟨RX11, "hands", "(IIII)I"⟩
abbrev cX11_years : ByteArray := prog_1_method_18_code
def yX11_years : MethodName := ⟨RX11, "years", "(III)I"⟩
abbrev cX11_image : ByteArray := prog_1_method_19_code
def yX11_image : MethodName := ⟨RX11, "image", "()I"⟩
abbrev cX11_restore : ByteArray := prog_1_method_20_code
def yX11_restore : MethodName := ⟨RX11, "restore", "()I"⟩
abbrev cX11_count : ByteArray := prog_1_method_21_code
def yX11_count : MethodName := ⟨RX11, "count", "(I)I"⟩
abbrev cX11_digest : ByteArray := prog_1_method_22_code
def yX11_digest : MethodName := ⟨RX11, "digest", "()J"⟩
abbrev cX11_mixedThing : ByteArray := prog_1_method_23_code
def yX11_mixedThing : MethodName := ⟨RX11, "mixedThing", "(JI)J"⟩
abbrev cX11_isOfKind : ByteArray := prog_1_method_24_code
def yX11_isOfKind : MethodName := ⟨RX11, "isOfKind", "(LLentChanged$Adder;I)Z"⟩
abbrev cX11_isState : ByteArray := prog_1_method_25_code
def yX11_isState : MethodName := ⟨RX11, "isState", "(I)Z"⟩
abbrev cX11_traitOf : ByteArray := prog_1_method_26_code
def yX11_traitOf : MethodName := ⟨RX11, "traitOf", "(II)I"⟩
abbrev cX11_traitSum : ByteArray := prog_1_method_27_code
def yX11_traitSum : MethodName := ⟨RX11, "traitSum", "(I)I"⟩
abbrev cX11_at : ByteArray := prog_1_method_28_code
def yX11_at : MethodName := ⟨RX11, "at", "([II)I"⟩
abbrev cX11_put : ByteArray := prog_1_method_29_code
def yX11_put : MethodName := ⟨RX11, "put", "([III)V"⟩
abbrev cX11_fill : ByteArray := prog_1_method_30_code
def yX11_fill : MethodName := ⟨RX11, "fill", "([II)V"⟩
def RX12 : String := "LentChangedModel"
def TX12 : u_T := fun k => match k with
  | 0 => ("LentChangedModel", "towns", "I", false)
  | 1 => ("LentChangedModel", "borrowers", "I", false)
  | 2 => ("LentChangedModel", "kindOf", "[I", true)
  | 3 => ("LentChangedModel", "traitOf", "[I", true)
  | 4 => ("LentChangedModel", "muchOf", "[I", true)
  | 5 => ("LentChangedModel", "daysOf", "[I", true)
  | 6 => ("LentChangedModel", "things", "I", false)
  | 7 => ("LentChangedModel", "stateOf", "[I", true)
  | 8 => ("LentChangedModel", "whoOf", "[I", true)
  | 9 => ("LentChangedModel", "stillOf", "[I", true)
  | 10 => ("LentChangedModel", "oftenOf", "[I", true)
  | 11 => ("LentChangedModel", "daysBy", "I", false)
  | 12 => ("LentChangedModel", "asks", "I", false)
  | 13 => ("LentChangedModel", "pageLength", "I", false)
  | 14 => ("LentChangedModel", "page", "[B", true)
  | 15 => ("LentChangedModel", "faultAt", "I", false)
  | 16 => ("LentChangedModel", "isWhole", "Z", false)
  | 17 => ("LentChangedModel", "newMany", "I", false)
  | 18 => ("LentChangedModel", "newKind", "[I", true)
  | 19 => ("LentChangedModel", "newTrait", "[I", true)
  | 20 => ("LentChangedModel", "newMuch", "[I", true)
  | 21 => ("LentChangedModel", "newDays", "[I", true)
  | 22 => ("LentChangedModel", "farOf", "[I", true)
  | 23 => ("LentChangedModel", "firstOf", "[I", true)
  | 24 => ("LentChangedModel", "rowsOf", "[I", true)
  | 25 => ("LentChangedModel", "rowsThen", "[I", true)
  | 26 => ("LentChangedModel", "seedNow", "J", false)
  | 27 => ("LentChangedModel", "thoughtOf", "[I", true)
  | 28 => ("LentChangedModel", "isKept", "Z", false)
  | 29 => ("LentChangedModel", "keptTown", "I", false)
  | 30 => ("LentChangedModel", "keptThings", "I", false)
  | 31 => ("LentChangedModel", "keptDays", "I", false)
  | 32 => ("LentChangedModel", "keptState", "[I", true)
  | 33 => ("LentChangedModel", "keptWho", "[I", true)
  | 34 => ("LentChangedModel", "keptStill", "[I", true)
  | 35 => ("LentChangedModel", "keptOften", "[I", true)
  | _ => ("LentChangedModel", "h", "J", false)
def tyX12 : Nat → FieldType := fun k => match k with
  | 0 => .int
  | 1 => .int
  | 2 => .array .int
  | 3 => .array .int
  | 4 => .array .int
  | 5 => .array .int
  | 6 => .int
  | 7 => .array .int
  | 8 => .array .int
  | 9 => .array .int
  | 10 => .array .int
  | 11 => .int
  | 12 => .int
  | 13 => .int
  | 14 => .array .byte
  | 15 => .int
  | 16 => .boolean
  | 17 => .int
  | 18 => .array .int
  | 19 => .array .int
  | 20 => .array .int
  | 21 => .array .int
  | 22 => .array .int
  | 23 => .array .int
  | 24 => .array .int
  | 25 => .array .int
  | 26 => .long
  | 27 => .array .int
  | 28 => .boolean
  | 29 => .int
  | 30 => .int
  | 31 => .int
  | 32 => .array .int
  | 33 => .array .int
  | 34 => .array .int
  | 35 => .array .int
  | _ => .long
abbrev wsX120 : List Cond := u_ws RX12 TX12 37
theorem nmX12 : ∀ a, a < 37 → ∀ b, b < 37 → a ≠ b → (TX12 a).2.1 ≠ (TX12 b).2.1 := by decide +kernel
theorem tyX12_ok : ∀ k, k < 37 → parseFieldDescriptor (TX12 k).2.2.1 = some (tyX12 k) := by decide +kernel
abbrev cX12_init : ByteArray := prog_14_method_1_code
def yX12_init : MethodName := ⟨RX12, "<init>", "()V"⟩
abbrev cX12_within : ByteArray := prog_14_method_3_code
def yX12_within : MethodName := ⟨RX12, "within", "(III)Z"⟩
abbrev cX12_size : ByteArray := prog_14_method_4_code
def yX12_size : MethodName := ⟨RX12, "size", "(I)I"⟩
abbrev cX12_letter : ByteArray := prog_14_method_5_code
def yX12_letter : MethodName := ⟨RX12, "letter", "(I)I"⟩
abbrev cX12_blank : ByteArray := prog_14_method_6_code
def yX12_blank : MethodName := ⟨RX12, "blank", "()I"⟩
abbrev cX12_kindBy : ByteArray := prog_14_method_7_code
def yX12_kindBy : MethodName := ⟨RX12, "kindBy", "(I)I"⟩
abbrev cX12_isGood : ByteArray := prog_14_method_8_code
def yX12_isGood : MethodName := ⟨RX12, "isGood", "(I)Z"⟩
abbrev cX12_readTown : ByteArray := prog_14_method_9_code
def yX12_readTown : MethodName := ⟨RX12, "readTown", "()V"⟩
abbrev cX12_readRound : ByteArray := prog_14_method_10_code
def yX12_readRound : MethodName := ⟨RX12, "readRound", "()V"⟩
abbrev cX12_fault : ByteArray := prog_14_method_11_code
def yX12_fault : MethodName := ⟨RX12, "fault", "(I)I"⟩
abbrev cX12_town : ByteArray := prog_14_method_12_code
def yX12_town : MethodName := ⟨RX12, "town", "()I"⟩
abbrev cX12_isBorrower : ByteArray := prog_14_method_13_code
def yX12_isBorrower : MethodName := ⟨RX12, "isBorrower", "(I)Z"⟩
abbrev cX12_isThing : ByteArray := prog_14_method_14_code
def yX12_isThing : MethodName := ⟨RX12, "isThing", "(I)Z"⟩
abbrev cX12_isState : ByteArray := prog_14_method_15_code
def yX12_isState : MethodName := ⟨RX12, "isState", "(I)Z"⟩
abbrev cX12_traitIn : ByteArray := prog_14_method_16_code
def yX12_traitIn : MethodName := ⟨RX12, "traitIn", "(II)I"⟩
abbrev cX12_with : ByteArray := prog_14_method_17_code
def yX12_with : MethodName := ⟨RX12, "with", "(III)I"⟩
abbrev cX12_made : ByteArray := prog_14_method_18_code
def yX12_made : MethodName := ⟨RX12, "made", "(II)I"⟩
abbrev cX12_whoseThing : ByteArray := prog_14_method_19_code
def yX12_whoseThing : MethodName := ⟨RX12, "whoseThing", "(I)I"⟩
abbrev cX12_borrowerNow : ByteArray := prog_14_method_20_code
def yX12_borrowerNow : MethodName := ⟨RX12, "borrowerNow", "(II)I"⟩
abbrev cX12_about : ByteArray := prog_14_method_21_code
def yX12_about : MethodName := ⟨RX12, "about", "(II)I"⟩
abbrev cX12_as : ByteArray := prog_14_method_22_code
def yX12_as : MethodName := ⟨RX12, "as", "(II)I"⟩
abbrev cX12_thing : ByteArray := prog_14_method_23_code
def yX12_thing : MethodName := ⟨RX12, "thing", "(I)I"⟩
abbrev cX12_homeState : ByteArray := prog_14_method_24_code
def yX12_homeState : MethodName := ⟨RX12, "homeState", "(I)I"⟩
abbrev cX12_thingNow : ByteArray := prog_14_method_25_code
def yX12_thingNow : MethodName := ⟨RX12, "thingNow", "(II)I"⟩
abbrev cX12_thingOf : ByteArray := prog_14_method_26_code
def yX12_thingOf : MethodName := ⟨RX12, "thingOf", "(II)I"⟩
abbrev cX12_lend : ByteArray := prog_14_method_27_code
def yX12_lend : MethodName := ⟨RX12, "lend", "(II)I"⟩
abbrev cX12_day : ByteArray := prog_14_method_28_code
def yX12_day : MethodName := ⟨RX12, "day", "()I"⟩
abbrev cX12_by : ByteArray := prog_14_method_29_code
def yX12_by : MethodName := ⟨RX12, "by", "(II)I"⟩
abbrev cX12_layWaves : ByteArray := prog_14_method_30_code
def yX12_layWaves : MethodName := ⟨RX12, "layWaves", "(IZI)V"⟩
abbrev cX12_goFrom : ByteArray := prog_14_method_31_code
def yX12_goFrom : MethodName := ⟨RX12, "goFrom", "(IZI)Z"⟩
abbrev cX12_wishedNow : ByteArray := prog_14_method_32_code
def yX12_wishedNow : MethodName := ⟨RX12, "wishedNow", "(III)I"⟩
abbrev cX12_wished : ByteArray := prog_14_method_33_code
def yX12_wished : MethodName := ⟨RX12, "wished", "(III)I"⟩
abbrev cX12_reachNow : ByteArray := prog_14_method_34_code
def yX12_reachNow : MethodName := ⟨RX12, "reachNow", "(I)I"⟩
abbrev cX12_reach : ByteArray := prog_14_method_35_code
def yX12_reach : MethodName := ⟨RX12, "reach", "(I)I"⟩
abbrev cX12_isSafe : ByteArray := prog_14_method_36_code
def yX12_isSafe : MethodName := ⟨RX12, "isSafe", "(IIII)Z"⟩
abbrev cX12_spoilersNow : ByteArray := prog_14_method_37_code
def yX12_spoilersNow : MethodName := ⟨RX12, "spoilersNow", "(III)I"⟩
abbrev cX12_spoilers : ByteArray := prog_14_method_38_code
def yX12_spoilers : MethodName := ⟨RX12, "spoilers", "(III)I"⟩
abbrev cX12_endsOf : ByteArray := prog_14_method_39_code
def yX12_endsOf : MethodName := ⟨RX12, "endsOf", "(I)I"⟩
abbrev cX12_backNow : ByteArray := prog_14_method_40_code
def yX12_backNow : MethodName := ⟨RX12, "backNow", "()I"⟩
abbrev cX12_round : ByteArray := prog_14_method_41_code
def yX12_round : MethodName := ⟨RX12, "round", "(II)I"⟩
abbrev cX12_rowsWithout : ByteArray := prog_14_method_42_code
def yX12_rowsWithout : MethodName := ⟨RX12, "rowsWithout", "(IIII)I"⟩
abbrev cX12_handsNow : ByteArray := prog_14_method_43_code
def yX12_handsNow : MethodName := ⟨RX12, "handsNow", "(IIII)I"⟩
abbrev cX12_hands : ByteArray := prog_14_method_44_code
def yX12_hands : MethodName := ⟨RX12, "hands", "(IIII)I"⟩
abbrev cX12_draw : ByteArray := prog_14_method_45_code
def yX12_draw : MethodName := ⟨RX12, "draw", "(I)I"⟩
abbrev cX12_traitsIn : ByteArray := prog_14_method_46_code
def yX12_traitsIn : MethodName := ⟨RX12, "traitsIn", "(I)I"⟩
abbrev cX12_yearsNow : ByteArray := prog_14_method_47_code
def yX12_yearsNow : MethodName := ⟨RX12, "yearsNow", "(III)I"⟩
abbrev cX12_years : ByteArray := prog_14_method_48_code
def yX12_years : MethodName := ⟨RX12, "years", "(III)I"⟩
abbrev cX12_image : ByteArray := prog_14_method_49_code
def yX12_image : MethodName := ⟨RX12, "image", "()I"⟩
abbrev cX12_restore : ByteArray := prog_14_method_50_code
def yX12_restore : MethodName := ⟨RX12, "restore", "()I"⟩
abbrev cX12_lentMany : ByteArray := prog_14_method_51_code
def yX12_lentMany : MethodName := ⟨RX12, "lentMany", "()I"⟩
abbrev cX12_traitsAll : ByteArray := prog_14_method_52_code
def yX12_traitsAll : MethodName := ⟨RX12, "traitsAll", "()I"⟩
abbrev cX12_howMany : ByteArray := prog_14_method_53_code
def yX12_howMany : MethodName := ⟨RX12, "howMany", "(I)I"⟩
abbrev cX12_count : ByteArray := prog_14_method_54_code
def yX12_count : MethodName := ⟨RX12, "count", "(I)I"⟩
abbrev cX12_mix : ByteArray := prog_14_method_55_code
def yX12_mix : MethodName := ⟨RX12, "mix", "(J)V"⟩
abbrev cX12_mixThing : ByteArray := prog_14_method_56_code
def yX12_mixThing : MethodName := ⟨RX12, "mixThing", "(I)V"⟩
abbrev cX12_digest : ByteArray := prog_14_method_57_code
def yX12_digest : MethodName := ⟨RX12, "digest", "()J"⟩
def RJ6 : String := "java/lang/Integer"
def TJ6 : u_T := fun k => match k with
  | _ => ("", "", "", false)
def tyJ6 : Nat → FieldType := fun k => match k with
  | _ => .int
abbrev wsJ60 : List Cond := u_ws RJ6 TJ6 0
theorem nmJ6 : ∀ a, a < 0 → ∀ b, b < 0 → a ≠ b → (TJ6 a).2.1 ≠ (TJ6 b).2.1 := by decide +kernel
theorem tyJ6_ok : ∀ k, k < 0 → parseFieldDescriptor (TJ6 k).2.2.1 = some (tyJ6 k) := by decide +kernel
abbrev cJ6_bitCount_0f7a4 : ByteArray := prog_15_method_49_code
def yJ6_bitCount_0f7a4 : MethodName := ⟨RJ6, "bitCount", "(I)I"⟩
def RJ9 : String := "java/lang/Math"
def TJ9 : u_T := fun k => match k with
  | _ => ("", "", "", false)
def tyJ9 : Nat → FieldType := fun k => match k with
  | _ => .int
abbrev wsJ90 : List Cond := u_ws RJ9 TJ9 0
theorem nmJ9 : ∀ a, a < 0 → ∀ b, b < 0 → a ≠ b → (TJ9 a).2.1 ≠ (TJ9 b).2.1 := by decide +kernel
theorem tyJ9_ok : ∀ k, k < 0 → parseFieldDescriptor (TJ9 k).2.2.1 = some (tyJ9 k) := by decide +kernel
abbrev cJ9_min_7cf53 : ByteArray := prog_16_method_69_code
def yJ9_min_7cf53 : MethodName := ⟨RJ9, "min", "(II)I"⟩
def RL : String := "LentChangedLaw"
abbrev cL_law : ByteArray := code
def yL_law : MethodName := ⟨RL, "law", "([I)Z"⟩
abbrev vwCl : List vw_C := [(RX0, TX0, 3), (RX1, TX1, 3), (RX2, TX2, 2), (RX3, TX3, 5), (RX4, TX4, 3), (RX5, TX5, 4), (RX6, TX6, 3), (RX7, TX7, 8), (RX8, TX8, 5), (RX9, TX9, 3), (RX10, TX10, 9), (RX11, TX11, 11), (RX12, TX12, 37)]
/-! the bundles: what a row wants of the tables, a theorem each -/
def spc : Cond → Bool
  | .methodLinkNest .. => true
  | .fieldLinkNest .. => true
  | .castable .. => true
  | .arrayOver (.object _) => true
  | _ => false
def uw (w : Cond) : Bool := goodWord w || spc w
def lw_g : List Cond := lw_tbl.filter goodWord
def lw_u : List Cond := lw_tbl.filter uw
theorem mem_u {w : Cond} (i : Nat) (h : lw_tbl[i]? = some w) (hg : uw w = true) : w ∈ lw_u := List.mem_filter.mpr ⟨List.mem_of_getElem? h, hg⟩
theorem in_by {ws : List Cond} (ps : List Nat) (hp : ws = ps.filterMap (fun i => lw_tbl[i]?)) (hg : ws.all uw = true) : ∀ w ∈ ws, w ∈ lw_u := by
  intro w hw
  refine List.mem_filter.mpr ⟨?_, List.all_eq_true.mp hg w hw⟩
  rw [hp] at hw
  obtain ⟨i, -, hi⟩ := List.mem_filterMap.mp hw
  exact List.mem_of_getElem? hi
theorem inX0 : ∀ w ∈ u_ws RX0 TX0 3, w ∈ lw_u := in_by [374, 375, 376] (by decide +kernel) (by decide +kernel)
theorem inX1 : ∀ w ∈ u_ws RX1 TX1 3, w ∈ lw_u := in_by [367, 368, 369] (by decide +kernel) (by decide +kernel)
theorem inX2 : ∀ w ∈ u_ws RX2 TX2 2, w ∈ lw_u := in_by [73, 75] (by decide +kernel) (by decide +kernel)
theorem inX3 : ∀ w ∈ u_ws RX3 TX3 5, w ∈ lw_u := in_by [207, 209, 211, 213, 215] (by decide +kernel) (by decide +kernel)
theorem inX4 : ∀ w ∈ u_ws RX4 TX4 3, w ∈ lw_u := in_by [334, 336, 338] (by decide +kernel) (by decide +kernel)
theorem inX5 : ∀ w ∈ u_ws RX5 TX5 4, w ∈ lw_u := in_by [187, 189, 191, 193] (by decide +kernel) (by decide +kernel)
theorem inX6 : ∀ w ∈ u_ws RX6 TX6 3, w ∈ lw_u := in_by [357, 358, 359] (by decide +kernel) (by decide +kernel)
theorem inX7 : ∀ w ∈ u_ws RX7 TX7 8, w ∈ lw_u := in_by [125, 127, 129, 131, 133, 135, 137, 139] (by decide +kernel) (by decide +kernel)
theorem inX8 : ∀ w ∈ u_ws RX8 TX8 5, w ∈ lw_u := in_by [97, 99, 101, 103, 105] (by decide +kernel) (by decide +kernel)
theorem inX9 : ∀ w ∈ u_ws RX9 TX9 3, w ∈ lw_u := in_by [347, 348, 349] (by decide +kernel) (by decide +kernel)
theorem inX10 : ∀ w ∈ u_ws RX10 TX10 9, w ∈ lw_u := in_by [158, 160, 162, 164, 166, 168, 170, 172, 174] (by decide +kernel) (by decide +kernel)
theorem inX11 : ∀ w ∈ u_ws RX11 TX11 11, w ∈ lw_u := in_by [229, 231, 233, 235, 237, 239, 241, 243, 245, 247, 249] (by decide +kernel) (by decide +kernel)
theorem inX12 : ∀ w ∈ u_ws RX12 TX12 37, w ∈ lw_u := in_by [770, 772, 774, 776, 778, 780, 782, 784, 786, 788, 790, 792, 794, 796, 798, 800, 802, 804, 806, 808, 810, 812, 814, 816, 818, 820, 822, 824, 826, 828, 830, 832, 834, 836, 838, 840, 842] (by decide +kernel) (by decide +kernel)
def LkF (own : String) (idx ci k : Nat) : Prop := ∃ (C : String) (T : u_T) (N : Nat) (ref : String), vwCl[ci]? = some (C, T, N) ∧ k < N ∧ (∀ w ∈ u_ws C T N, w ∈ lw_u) ∧ (Cond.fieldLink own idx ref (T k).2.1 (T k).2.2.1 ∈ lw_u ∨ ∃ host, Cond.fieldLinkNest own idx ref (T k).2.1 (T k).2.2.1 host ∈ lw_u) ∧ (ref = (T k).1 ∨ Cond.sameField ref (T k).1 (T k).2.1 (T k).2.2.1 ∈ lw_u)
def LkP (own : String) (idx ci k : Nat) (ty : FieldType) (fin : Bool) : Prop := ∃ (C : String) (T : u_T) (N : Nat) (ty0 : Nat → FieldType), vwCl[ci]? = some (C, T, N) ∧ k < N ∧ (∀ w ∈ u_ws C T N, w ∈ lw_u) ∧ (Cond.fieldLink own idx (T k).1 (T k).2.1 (T k).2.2.1 ∈ lw_u ∨ ∃ host, Cond.fieldLinkNest own idx (T k).1 (T k).2.1 (T k).2.2.1 host ∈ lw_u) ∧ (∀ k, k < N → parseFieldDescriptor (T k).2.2.1 = some (ty0 k)) ∧ (∀ a, a < N → ∀ b, b < N → a ≠ b → (T a).2.1 ≠ (T b).2.1) ∧ (T k).2.2.2 = fin ∧ ty0 k = ty ∧ (fin = true → (T k).1 = own)
def MkY (y : MethodName) (cc : ByteArray) (nL : Nat) (ret : Option FieldType) (n : Nat) : Prop := Cond.code y cc nL ret ∈ lw_u ∧ Cond.initialized y.cls ∈ lw_u ∧ (y.cls ≠ "java/lang/invoke/MethodHandle" ∧ y.cls ≠ "java/lang/invoke/VarHandle") ∧ (parseMethodDescriptor y.desc).map (fun d => d.parameters.length) = some n ∧ plainName y.cls = true
def LkK (own : String) (idx : Nat) (y : MethodName) : Prop := Cond.methodLink own idx y ∈ lw_u ∨ ∃ host, Cond.methodLinkNest own idx y host ∈ lw_u
def LkS (own : String) (idx : Nat) (y : MethodName) : Prop := LkK own idx y ∧ Cond.static y ∈ lw_u
def LkI (own : String) (idx : Nat) (y : MethodName) : Prop := LkK own idx y ∧ Cond.instanceMethod y ∈ lw_u ∧ y.name = "<init>"
def LkV (own : String) (idx : Nat) (y : MethodName) (ci : Nat) : Prop := Cond.methodLink own idx y ∈ lw_u ∧ Cond.instanceMethod y ∈ lw_u ∧ Cond.selects y.cls y y ∈ lw_u ∧ ∃ (T : u_T) (N : Nat), vwCl[ci]? = some (y.cls, T, N)
def LkU (own : String) (idx : Nat) (x y : MethodName) (ci : Nat) : Prop := ∃ (C : String) (T : u_T) (N : Nat) (owner : String) (b0 : ByteArray) (m0 : Nat) (r0 : Option FieldType), vwCl[ci]? = some (C, T, N) ∧ Cond.methodLink own idx x ∈ lw_u ∧ Cond.sameMethod x.cls owner x.name x.desc ∈ lw_u ∧ Cond.instanceMethod ⟨owner, x.name, x.desc⟩ ∈ lw_u ∧ Cond.code ⟨owner, x.name, x.desc⟩ b0 m0 r0 ∈ lw_u ∧ Cond.selects C x y ∈ lw_u ∧ Cond.instanceMethod y ∈ lw_u ∧ (owner ≠ "java/lang/invoke/MethodHandle" ∧ owner ≠ "java/lang/invoke/VarHandle") ∧ x.desc = y.desc
def LkN (own : String) (idx ci : Nat) (N : Nat) : Prop := ∃ (C : String) (T : u_T) (ty0 : Nat → FieldType), vwCl[ci]? = some (C, T, N) ∧ (∀ w ∈ u_ws C T N, w ∈ lw_u) ∧ (∀ k, k < N → parseFieldDescriptor (T k).2.2.1 = some (ty0 k)) ∧ Cond.classLink own idx C ∈ lw_u ∧ Cond.instantiable C N ∈ lw_u ∧ Cond.initialized C ∈ lw_u
theorem fl_X2_9_2 : LkF RX2 9 2 0 := ⟨RX2, TX2, 2, RX2, rfl, by decide, inX2, .inl (mem_u 69 (by decide +kernel) (by decide +kernel)), .inl rfl⟩
theorem pl_X2_9_2 : LkP RX2 9 2 0 (.array .int) true := ⟨RX2, TX2, 2, tyX2, rfl, by decide, inX2, .inl (mem_u 69 (by decide +kernel) (by decide +kernel)), tyX2_ok, nmX2, rfl, rfl, fun _ => rfl⟩
theorem fl_X2_15_2 : LkF RX2 15 2 1 := ⟨RX2, TX2, 2, RX2, rfl, by decide, inX2, .inl (mem_u 70 (by decide +kernel) (by decide +kernel)), .inl rfl⟩
theorem pl_X2_15_2 : LkP RX2 15 2 1 .int false := ⟨RX2, TX2, 2, tyX2, rfl, by decide, inX2, .inl (mem_u 70 (by decide +kernel) (by decide +kernel)), tyX2_ok, nmX2, rfl, rfl, fun h => absurd h (by decide)⟩
theorem fl_X8_11_8 : LkF RX8 11 8 0 := ⟨RX8, TX8, 5, RX8, rfl, by decide, inX8, .inl (mem_u 87 (by decide +kernel) (by decide +kernel)), .inl rfl⟩
theorem pl_X8_11_8 : LkP RX8 11 8 0 (.array (.object "LentChanged$Adder")) true := ⟨RX8, TX8, 5, tyX8, rfl, by decide, inX8, .inl (mem_u 87 (by decide +kernel) (by decide +kernel)), tyX8_ok, nmX8, rfl, rfl, fun _ => rfl⟩
theorem fl_X8_17_8 : LkF RX8 17 8 1 := ⟨RX8, TX8, 5, RX8, rfl, by decide, inX8, .inl (mem_u 88 (by decide +kernel) (by decide +kernel)), .inl rfl⟩
theorem pl_X8_17_8 : LkP RX8 17 8 1 (.array .int) true := ⟨RX8, TX8, 5, tyX8, rfl, by decide, inX8, .inl (mem_u 88 (by decide +kernel) (by decide +kernel)), tyX8_ok, nmX8, rfl, rfl, fun _ => rfl⟩
theorem fl_X8_21_8 : LkF RX8 21 8 2 := ⟨RX8, TX8, 5, RX8, rfl, by decide, inX8, .inl (mem_u 89 (by decide +kernel) (by decide +kernel)), .inl rfl⟩
theorem pl_X8_21_8 : LkP RX8 21 8 2 (.array .int) true := ⟨RX8, TX8, 5, tyX8, rfl, by decide, inX8, .inl (mem_u 89 (by decide +kernel) (by decide +kernel)), tyX8_ok, nmX8, rfl, rfl, fun _ => rfl⟩
theorem fl_X8_24_8 : LkF RX8 24 8 3 := ⟨RX8, TX8, 5, RX8, rfl, by decide, inX8, .inl (mem_u 90 (by decide +kernel) (by decide +kernel)), .inl rfl⟩
theorem pl_X8_24_8 : LkP RX8 24 8 3 (.array .int) true := ⟨RX8, TX8, 5, tyX8, rfl, by decide, inX8, .inl (mem_u 90 (by decide +kernel) (by decide +kernel)), tyX8_ok, nmX8, rfl, rfl, fun _ => rfl⟩
theorem fl_X8_38_8 : LkF RX8 38 8 4 := ⟨RX8, TX8, 5, RX8, rfl, by decide, inX8, .inl (mem_u 91 (by decide +kernel) (by decide +kernel)), .inl rfl⟩
theorem pl_X8_38_8 : LkP RX8 38 8 4 .int false := ⟨RX8, TX8, 5, tyX8, rfl, by decide, inX8, .inl (mem_u 91 (by decide +kernel) (by decide +kernel)), tyX8_ok, nmX8, rfl, rfl, fun h => absurd h (by decide)⟩
theorem fl_X7_9_7 : LkF RX7 9 7 0 := ⟨RX7, TX7, 8, RX7, rfl, by decide, inX7, .inl (mem_u 114 (by decide +kernel) (by decide +kernel)), .inl rfl⟩
theorem pl_X7_9_7 : LkP RX7 9 7 0 (.array .int) true := ⟨RX7, TX7, 8, tyX7, rfl, by decide, inX7, .inl (mem_u 114 (by decide +kernel) (by decide +kernel)), tyX7_ok, nmX7, rfl, rfl, fun _ => rfl⟩
theorem fl_X7_15_7 : LkF RX7 15 7 1 := ⟨RX7, TX7, 8, RX7, rfl, by decide, inX7, .inl (mem_u 115 (by decide +kernel) (by decide +kernel)), .inl rfl⟩
theorem pl_X7_15_7 : LkP RX7 15 7 1 (.array .int) true := ⟨RX7, TX7, 8, tyX7, rfl, by decide, inX7, .inl (mem_u 115 (by decide +kernel) (by decide +kernel)), tyX7_ok, nmX7, rfl, rfl, fun _ => rfl⟩
theorem fl_X7_18_7 : LkF RX7 18 7 2 := ⟨RX7, TX7, 8, RX7, rfl, by decide, inX7, .inl (mem_u 116 (by decide +kernel) (by decide +kernel)), .inl rfl⟩
theorem pl_X7_18_7 : LkP RX7 18 7 2 (.array .int) true := ⟨RX7, TX7, 8, tyX7, rfl, by decide, inX7, .inl (mem_u 116 (by decide +kernel) (by decide +kernel)), tyX7_ok, nmX7, rfl, rfl, fun _ => rfl⟩
theorem fl_X7_21_7 : LkF RX7 21 7 3 := ⟨RX7, TX7, 8, RX7, rfl, by decide, inX7, .inl (mem_u 117 (by decide +kernel) (by decide +kernel)), .inl rfl⟩
theorem pl_X7_21_7 : LkP RX7 21 7 3 (.array .int) true := ⟨RX7, TX7, 8, tyX7, rfl, by decide, inX7, .inl (mem_u 117 (by decide +kernel) (by decide +kernel)), tyX7_ok, nmX7, rfl, rfl, fun _ => rfl⟩
theorem fl_X7_27_7 : LkF RX7 27 7 4 := ⟨RX7, TX7, 8, RX7, rfl, by decide, inX7, .inl (mem_u 118 (by decide +kernel) (by decide +kernel)), .inl rfl⟩
theorem pl_X7_27_7 : LkP RX7 27 7 4 .int false := ⟨RX7, TX7, 8, tyX7, rfl, by decide, inX7, .inl (mem_u 118 (by decide +kernel) (by decide +kernel)), tyX7_ok, nmX7, rfl, rfl, fun h => absurd h (by decide)⟩
theorem fl_X7_31_7 : LkF RX7 31 7 5 := ⟨RX7, TX7, 8, RX7, rfl, by decide, inX7, .inl (mem_u 120 (by decide +kernel) (by decide +kernel)), .inl rfl⟩
theorem pl_X7_31_7 : LkP RX7 31 7 5 .int false := ⟨RX7, TX7, 8, tyX7, rfl, by decide, inX7, .inl (mem_u 120 (by decide +kernel) (by decide +kernel)), tyX7_ok, nmX7, rfl, rfl, fun h => absurd h (by decide)⟩
theorem fl_X7_24_7 : LkF RX7 24 7 6 := ⟨RX7, TX7, 8, RX7, rfl, by decide, inX7, .inl (mem_u 122 (by decide +kernel) (by decide +kernel)), .inl rfl⟩
theorem pl_X7_24_7 : LkP RX7 24 7 6 (.array .int) true := ⟨RX7, TX7, 8, tyX7, rfl, by decide, inX7, .inl (mem_u 122 (by decide +kernel) (by decide +kernel)), tyX7_ok, nmX7, rfl, rfl, fun _ => rfl⟩
theorem fl_X7_64_7 : LkF RX7 64 7 7 := ⟨RX7, TX7, 8, RX7, rfl, by decide, inX7, .inl (mem_u 123 (by decide +kernel) (by decide +kernel)), .inl rfl⟩
theorem pl_X7_64_7 : LkP RX7 64 7 7 .int false := ⟨RX7, TX7, 8, tyX7, rfl, by decide, inX7, .inl (mem_u 123 (by decide +kernel) (by decide +kernel)), tyX7_ok, nmX7, rfl, rfl, fun h => absurd h (by decide)⟩
theorem fl_X10_31_10 : LkF RX10 31 10 0 := ⟨RX10, TX10, 9, RX10, rfl, by decide, inX10, .inl (mem_u 148 (by decide +kernel) (by decide +kernel)), .inl rfl⟩
theorem pl_X10_31_10 : LkP RX10 31 10 0 (.object "LentChanged$Town") true := ⟨RX10, TX10, 9, tyX10, rfl, by decide, inX10, .inl (mem_u 148 (by decide +kernel) (by decide +kernel)), tyX10_ok, nmX10, rfl, rfl, fun _ => rfl⟩
theorem fl_X10_35_10 : LkF RX10 35 10 1 := ⟨RX10, TX10, 9, RX10, rfl, by decide, inX10, .inl (mem_u 149 (by decide +kernel) (by decide +kernel)), .inl rfl⟩
theorem pl_X10_35_10 : LkP RX10 35 10 1 .boolean true := ⟨RX10, TX10, 9, tyX10, rfl, by decide, inX10, .inl (mem_u 149 (by decide +kernel) (by decide +kernel)), tyX10_ok, nmX10, rfl, rfl, fun _ => rfl⟩
theorem fl_X10_9_10 : LkF RX10 9 10 2 := ⟨RX10, TX10, 9, RX10, rfl, by decide, inX10, .inl (mem_u 150 (by decide +kernel) (by decide +kernel)), .inl rfl⟩
theorem pl_X10_9_10 : LkP RX10 9 10 2 (.array .int) true := ⟨RX10, TX10, 9, tyX10, rfl, by decide, inX10, .inl (mem_u 150 (by decide +kernel) (by decide +kernel)), tyX10_ok, nmX10, rfl, rfl, fun _ => rfl⟩
theorem fl_X10_15_10 : LkF RX10 15 10 3 := ⟨RX10, TX10, 9, RX10, rfl, by decide, inX10, .inl (mem_u 151 (by decide +kernel) (by decide +kernel)), .inl rfl⟩
theorem pl_X10_15_10 : LkP RX10 15 10 3 (.array .int) true := ⟨RX10, TX10, 9, tyX10, rfl, by decide, inX10, .inl (mem_u 151 (by decide +kernel) (by decide +kernel)), tyX10_ok, nmX10, rfl, rfl, fun _ => rfl⟩
theorem fl_X10_18_10 : LkF RX10 18 10 4 := ⟨RX10, TX10, 9, RX10, rfl, by decide, inX10, .inl (mem_u 152 (by decide +kernel) (by decide +kernel)), .inl rfl⟩
theorem pl_X10_18_10 : LkP RX10 18 10 4 (.array .int) true := ⟨RX10, TX10, 9, tyX10, rfl, by decide, inX10, .inl (mem_u 152 (by decide +kernel) (by decide +kernel)), tyX10_ok, nmX10, rfl, rfl, fun _ => rfl⟩
theorem fl_X10_21_10 : LkF RX10 21 10 5 := ⟨RX10, TX10, 9, RX10, rfl, by decide, inX10, .inl (mem_u 153 (by decide +kernel) (by decide +kernel)), .inl rfl⟩
theorem pl_X10_21_10 : LkP RX10 21 10 5 (.array .int) true := ⟨RX10, TX10, 9, tyX10, rfl, by decide, inX10, .inl (mem_u 153 (by decide +kernel) (by decide +kernel)), tyX10_ok, nmX10, rfl, rfl, fun _ => rfl⟩
theorem fl_X10_24_10 : LkF RX10 24 10 6 := ⟨RX10, TX10, 9, RX10, rfl, by decide, inX10, .inl (mem_u 154 (by decide +kernel) (by decide +kernel)), .inl rfl⟩
theorem pl_X10_24_10 : LkP RX10 24 10 6 (.array .int) true := ⟨RX10, TX10, 9, tyX10, rfl, by decide, inX10, .inl (mem_u 154 (by decide +kernel) (by decide +kernel)), tyX10_ok, nmX10, rfl, rfl, fun _ => rfl⟩
theorem fl_X10_27_10 : LkF RX10 27 10 7 := ⟨RX10, TX10, 9, RX10, rfl, by decide, inX10, .inl (mem_u 155 (by decide +kernel) (by decide +kernel)), .inl rfl⟩
theorem pl_X10_27_10 : LkP RX10 27 10 7 .int false := ⟨RX10, TX10, 9, tyX10, rfl, by decide, inX10, .inl (mem_u 155 (by decide +kernel) (by decide +kernel)), tyX10_ok, nmX10, rfl, rfl, fun h => absurd h (by decide)⟩
theorem fl_X10_47_10 : LkF RX10 47 10 8 := ⟨RX10, TX10, 9, RX10, rfl, by decide, inX10, .inl (mem_u 156 (by decide +kernel) (by decide +kernel)), .inl rfl⟩
theorem pl_X10_47_10 : LkP RX10 47 10 8 .int false := ⟨RX10, TX10, 9, tyX10, rfl, by decide, inX10, .inl (mem_u 156 (by decide +kernel) (by decide +kernel)), tyX10_ok, nmX10, rfl, rfl, fun h => absurd h (by decide)⟩
theorem fl_X5_18_5 : LkF RX5 18 5 0 := ⟨RX5, TX5, 4, RX5, rfl, by decide, inX5, .inl (mem_u 183 (by decide +kernel) (by decide +kernel)), .inl rfl⟩
theorem pl_X5_18_5 : LkP RX5 18 5 0 (.object "LentChanged$Town") true := ⟨RX5, TX5, 4, tyX5, rfl, by decide, inX5, .inl (mem_u 183 (by decide +kernel) (by decide +kernel)), tyX5_ok, nmX5, rfl, rfl, fun _ => rfl⟩
theorem fl_X5_9_5 : LkF RX5 9 5 1 := ⟨RX5, TX5, 4, RX5, rfl, by decide, inX5, .inl (mem_u 184 (by decide +kernel) (by decide +kernel)), .inl rfl⟩
theorem pl_X5_9_5 : LkP RX5 9 5 1 (.array .int) true := ⟨RX5, TX5, 4, tyX5, rfl, by decide, inX5, .inl (mem_u 184 (by decide +kernel) (by decide +kernel)), tyX5_ok, nmX5, rfl, rfl, fun _ => rfl⟩
theorem fl_X5_15_5 : LkF RX5 15 5 2 := ⟨RX5, TX5, 4, RX5, rfl, by decide, inX5, .inl (mem_u 185 (by decide +kernel) (by decide +kernel)), .inl rfl⟩
theorem pl_X5_15_5 : LkP RX5 15 5 2 (.array .int) true := ⟨RX5, TX5, 4, tyX5, rfl, by decide, inX5, .inl (mem_u 185 (by decide +kernel) (by decide +kernel)), tyX5_ok, nmX5, rfl, rfl, fun _ => rfl⟩
theorem fl_X5_42_5 : LkF RX5 42 5 3 := ⟨RX5, TX5, 4, RX5, rfl, by decide, inX5, .inl (mem_u 186 (by decide +kernel) (by decide +kernel)), .inl rfl⟩
theorem pl_X5_42_5 : LkP RX5 42 5 3 .int false := ⟨RX5, TX5, 4, tyX5, rfl, by decide, inX5, .inl (mem_u 186 (by decide +kernel) (by decide +kernel)), tyX5_ok, nmX5, rfl, rfl, fun h => absurd h (by decide)⟩
theorem fl_X3_24_3 : LkF RX3 24 3 0 := ⟨RX3, TX3, 5, RX3, rfl, by decide, inX3, .inl (mem_u 202 (by decide +kernel) (by decide +kernel)), .inl rfl⟩
theorem pl_X3_24_3 : LkP RX3 24 3 0 (.object "LentChanged$Town") true := ⟨RX3, TX3, 5, tyX3, rfl, by decide, inX3, .inl (mem_u 202 (by decide +kernel) (by decide +kernel)), tyX3_ok, nmX3, rfl, rfl, fun _ => rfl⟩
theorem fl_X3_9_3 : LkF RX3 9 3 1 := ⟨RX3, TX3, 5, RX3, rfl, by decide, inX3, .inl (mem_u 203 (by decide +kernel) (by decide +kernel)), .inl rfl⟩
theorem pl_X3_9_3 : LkP RX3 9 3 1 (.array .int) false := ⟨RX3, TX3, 5, tyX3, rfl, by decide, inX3, .inl (mem_u 203 (by decide +kernel) (by decide +kernel)), tyX3_ok, nmX3, rfl, rfl, fun h => absurd h (by decide)⟩
theorem fl_X3_15_3 : LkF RX3 15 3 2 := ⟨RX3, TX3, 5, RX3, rfl, by decide, inX3, .inl (mem_u 204 (by decide +kernel) (by decide +kernel)), .inl rfl⟩
theorem pl_X3_15_3 : LkP RX3 15 3 2 (.array .int) false := ⟨RX3, TX3, 5, tyX3, rfl, by decide, inX3, .inl (mem_u 204 (by decide +kernel) (by decide +kernel)), tyX3_ok, nmX3, rfl, rfl, fun h => absurd h (by decide)⟩
theorem fl_X3_18_3 : LkF RX3 18 3 3 := ⟨RX3, TX3, 5, RX3, rfl, by decide, inX3, .inl (mem_u 205 (by decide +kernel) (by decide +kernel)), .inl rfl⟩
theorem pl_X3_18_3 : LkP RX3 18 3 3 (.array .int) false := ⟨RX3, TX3, 5, tyX3, rfl, by decide, inX3, .inl (mem_u 205 (by decide +kernel) (by decide +kernel)), tyX3_ok, nmX3, rfl, rfl, fun h => absurd h (by decide)⟩
theorem fl_X3_21_3 : LkF RX3 21 3 4 := ⟨RX3, TX3, 5, RX3, rfl, by decide, inX3, .inl (mem_u 206 (by decide +kernel) (by decide +kernel)), .inl rfl⟩
theorem pl_X3_21_3 : LkP RX3 21 3 4 (.array .int) false := ⟨RX3, TX3, 5, tyX3, rfl, by decide, inX3, .inl (mem_u 206 (by decide +kernel) (by decide +kernel)), tyX3_ok, nmX3, rfl, rfl, fun h => absurd h (by decide)⟩
theorem fl_X11_10_11 : LkF RX11 10 11 0 := ⟨RX11, TX11, 11, RX11, rfl, by decide, inX11, .inl (mem_u 218 (by decide +kernel) (by decide +kernel)), .inl rfl⟩
theorem pl_X11_10_11 : LkP RX11 10 11 0 (.object "LentChanged$Page") true := ⟨RX11, TX11, 11, tyX11, rfl, by decide, inX11, .inl (mem_u 218 (by decide +kernel) (by decide +kernel)), tyX11_ok, nmX11, rfl, rfl, fun _ => rfl⟩
theorem fl_X11_19_11 : LkF RX11 19 11 1 := ⟨RX11, TX11, 11, RX11, rfl, by decide, inX11, .inl (mem_u 219 (by decide +kernel) (by decide +kernel)), .inl rfl⟩
theorem pl_X11_19_11 : LkP RX11 19 11 1 (.object "LentChanged$Town") true := ⟨RX11, TX11, 11, tyX11, rfl, by decide, inX11, .inl (mem_u 219 (by decide +kernel) (by decide +kernel)), tyX11_ok, nmX11, rfl, rfl, fun _ => rfl⟩
theorem fl_X11_26_11 : LkF RX11 26 11 2 := ⟨RX11, TX11, 11, RX11, rfl, by decide, inX11, .inl (mem_u 220 (by decide +kernel) (by decide +kernel)), .inl rfl⟩
theorem pl_X11_26_11 : LkP RX11 26 11 2 (.object "LentChanged$Things") true := ⟨RX11, TX11, 11, tyX11, rfl, by decide, inX11, .inl (mem_u 220 (by decide +kernel) (by decide +kernel)), tyX11_ok, nmX11, rfl, rfl, fun _ => rfl⟩
theorem fl_X11_30_11 : LkF RX11 30 11 3 := ⟨RX11, TX11, 11, RX11, rfl, by decide, inX11, .inl (mem_u 221 (by decide +kernel) (by decide +kernel)), .inl rfl⟩
theorem pl_X11_30_11 : LkP RX11 30 11 3 (.object "LentChanged$Things") true := ⟨RX11, TX11, 11, tyX11, rfl, by decide, inX11, .inl (mem_u 221 (by decide +kernel) (by decide +kernel)), tyX11_ok, nmX11, rfl, rfl, fun _ => rfl⟩
theorem fl_X11_38_11 : LkF RX11 38 11 4 := ⟨RX11, TX11, 11, RX11, rfl, by decide, inX11, .inl (mem_u 222 (by decide +kernel) (by decide +kernel)), .inl rfl⟩
theorem pl_X11_38_11 : LkP RX11 38 11 4 (.object "LentChanged$Ways") true := ⟨RX11, TX11, 11, tyX11, rfl, by decide, inX11, .inl (mem_u 222 (by decide +kernel) (by decide +kernel)), tyX11_ok, nmX11, rfl, rfl, fun _ => rfl⟩
theorem fl_X11_42_11 : LkF RX11 42 11 5 := ⟨RX11, TX11, 11, RX11, rfl, by decide, inX11, .inl (mem_u 223 (by decide +kernel) (by decide +kernel)), .inl rfl⟩
theorem pl_X11_42_11 : LkP RX11 42 11 5 (.object "LentChanged$Ways") true := ⟨RX11, TX11, 11, tyX11, rfl, by decide, inX11, .inl (mem_u 223 (by decide +kernel) (by decide +kernel)), tyX11_ok, nmX11, rfl, rfl, fun _ => rfl⟩
theorem fl_X11_50_11 : LkF RX11 50 11 6 := ⟨RX11, TX11, 11, RX11, rfl, by decide, inX11, .inl (mem_u 224 (by decide +kernel) (by decide +kernel)), .inl rfl⟩
theorem pl_X11_50_11 : LkP RX11 50 11 6 (.object "LentChanged$Spoiling") true := ⟨RX11, TX11, 11, tyX11, rfl, by decide, inX11, .inl (mem_u 224 (by decide +kernel) (by decide +kernel)), tyX11_ok, nmX11, rfl, rfl, fun _ => rfl⟩
theorem fl_X11_57_11 : LkF RX11 57 11 7 := ⟨RX11, TX11, 11, RX11, rfl, by decide, inX11, .inl (mem_u 225 (by decide +kernel) (by decide +kernel)), .inl rfl⟩
theorem pl_X11_57_11 : LkP RX11 57 11 7 (.object "LentChanged$Rows") true := ⟨RX11, TX11, 11, tyX11, rfl, by decide, inX11, .inl (mem_u 225 (by decide +kernel) (by decide +kernel)), tyX11_ok, nmX11, rfl, rfl, fun _ => rfl⟩
theorem fl_X11_94_11 : LkF RX11 94 11 8 := ⟨RX11, TX11, 11, RX11, rfl, by decide, inX11, .inl (mem_u 226 (by decide +kernel) (by decide +kernel)), .inl rfl⟩
theorem pl_X11_94_11 : LkP RX11 94 11 8 .boolean false := ⟨RX11, TX11, 11, tyX11, rfl, by decide, inX11, .inl (mem_u 226 (by decide +kernel) (by decide +kernel)), tyX11_ok, nmX11, rfl, rfl, fun h => absurd h (by decide)⟩
theorem fl_X11_98_11 : LkF RX11 98 11 9 := ⟨RX11, TX11, 11, RX11, rfl, by decide, inX11, .inl (mem_u 227 (by decide +kernel) (by decide +kernel)), .inl rfl⟩
theorem pl_X11_98_11 : LkP RX11 98 11 9 .int false := ⟨RX11, TX11, 11, tyX11, rfl, by decide, inX11, .inl (mem_u 227 (by decide +kernel) (by decide +kernel)), tyX11_ok, nmX11, rfl, rfl, fun h => absurd h (by decide)⟩
theorem fl_X11_197_11 : LkF RX11 197 11 10 := ⟨RX11, TX11, 11, RX11, rfl, by decide, inX11, .inl (mem_u 228 (by decide +kernel) (by decide +kernel)), .inl rfl⟩
theorem pl_X11_197_11 : LkP RX11 197 11 10 .int false := ⟨RX11, TX11, 11, tyX11, rfl, by decide, inX11, .inl (mem_u 228 (by decide +kernel) (by decide +kernel)), tyX11_ok, nmX11, rfl, rfl, fun h => absurd h (by decide)⟩
theorem fl_X0_9_0 : LkF RX0 9 0 0 := ⟨RX0, TX0, 3, RX0, rfl, by decide, inX0, .inl (mem_u 323 (by decide +kernel) (by decide +kernel)), .inl rfl⟩
theorem pl_X0_9_0 : LkP RX0 9 0 0 .int true := ⟨RX0, TX0, 3, tyX0, rfl, by decide, inX0, .inl (mem_u 323 (by decide +kernel) (by decide +kernel)), tyX0_ok, nmX0, rfl, rfl, fun _ => rfl⟩
theorem fl_X0_9_1 : LkF RX0 9 1 0 := ⟨RX1, TX1, 3, RX0, rfl, by decide, inX1, .inl (mem_u 323 (by decide +kernel) (by decide +kernel)), .inl rfl⟩
theorem pl_X0_9_1 : LkP RX0 9 1 0 .int true := ⟨RX1, TX1, 3, tyX1, rfl, by decide, inX1, .inl (mem_u 323 (by decide +kernel) (by decide +kernel)), tyX1_ok, nmX1, rfl, rfl, fun _ => rfl⟩
theorem fl_X0_9_4 : LkF RX0 9 4 0 := ⟨RX4, TX4, 3, RX0, rfl, by decide, inX4, .inl (mem_u 323 (by decide +kernel) (by decide +kernel)), .inl rfl⟩
theorem pl_X0_9_4 : LkP RX0 9 4 0 .int true := ⟨RX4, TX4, 3, tyX4, rfl, by decide, inX4, .inl (mem_u 323 (by decide +kernel) (by decide +kernel)), tyX4_ok, nmX4, rfl, rfl, fun _ => rfl⟩
theorem fl_X0_9_6 : LkF RX0 9 6 0 := ⟨RX6, TX6, 3, RX0, rfl, by decide, inX6, .inl (mem_u 323 (by decide +kernel) (by decide +kernel)), .inl rfl⟩
theorem pl_X0_9_6 : LkP RX0 9 6 0 .int true := ⟨RX6, TX6, 3, tyX6, rfl, by decide, inX6, .inl (mem_u 323 (by decide +kernel) (by decide +kernel)), tyX6_ok, nmX6, rfl, rfl, fun _ => rfl⟩
theorem fl_X0_9_9 : LkF RX0 9 9 0 := ⟨RX9, TX9, 3, RX0, rfl, by decide, inX9, .inl (mem_u 323 (by decide +kernel) (by decide +kernel)), .inl rfl⟩
theorem pl_X0_9_9 : LkP RX0 9 9 0 .int true := ⟨RX9, TX9, 3, tyX9, rfl, by decide, inX9, .inl (mem_u 323 (by decide +kernel) (by decide +kernel)), tyX9_ok, nmX9, rfl, rfl, fun _ => rfl⟩
theorem fl_X6_9_6 : LkF RX6 9 6 0 := ⟨RX6, TX6, 3, RX6, rfl, by decide, inX6, .inl (mem_u 324 (by decide +kernel) (by decide +kernel)), .inr (mem_u 325 (by decide +kernel) (by decide +kernel))⟩
theorem fl_X11_110_0 : LkF RX11 110 0 0 := ⟨RX0, TX0, 3, RX0, rfl, by decide, inX0, .inl (mem_u 326 (by decide +kernel) (by decide +kernel)), .inl rfl⟩
theorem fl_X11_110_1 : LkF RX11 110 1 0 := ⟨RX1, TX1, 3, RX0, rfl, by decide, inX1, .inl (mem_u 326 (by decide +kernel) (by decide +kernel)), .inl rfl⟩
theorem fl_X11_110_4 : LkF RX11 110 4 0 := ⟨RX4, TX4, 3, RX0, rfl, by decide, inX4, .inl (mem_u 326 (by decide +kernel) (by decide +kernel)), .inl rfl⟩
theorem fl_X11_110_6 : LkF RX11 110 6 0 := ⟨RX6, TX6, 3, RX0, rfl, by decide, inX6, .inl (mem_u 326 (by decide +kernel) (by decide +kernel)), .inl rfl⟩
theorem fl_X11_110_9 : LkF RX11 110 9 0 := ⟨RX9, TX9, 3, RX0, rfl, by decide, inX9, .inl (mem_u 326 (by decide +kernel) (by decide +kernel)), .inl rfl⟩
theorem fl_X0_15_0 : LkF RX0 15 0 1 := ⟨RX0, TX0, 3, RX0, rfl, by decide, inX0, .inl (mem_u 327 (by decide +kernel) (by decide +kernel)), .inl rfl⟩
theorem pl_X0_15_0 : LkP RX0 15 0 1 .int true := ⟨RX0, TX0, 3, tyX0, rfl, by decide, inX0, .inl (mem_u 327 (by decide +kernel) (by decide +kernel)), tyX0_ok, nmX0, rfl, rfl, fun _ => rfl⟩
theorem fl_X0_15_1 : LkF RX0 15 1 1 := ⟨RX1, TX1, 3, RX0, rfl, by decide, inX1, .inl (mem_u 327 (by decide +kernel) (by decide +kernel)), .inl rfl⟩
theorem pl_X0_15_1 : LkP RX0 15 1 1 .int true := ⟨RX1, TX1, 3, tyX1, rfl, by decide, inX1, .inl (mem_u 327 (by decide +kernel) (by decide +kernel)), tyX1_ok, nmX1, rfl, rfl, fun _ => rfl⟩
theorem fl_X0_15_4 : LkF RX0 15 4 1 := ⟨RX4, TX4, 3, RX0, rfl, by decide, inX4, .inl (mem_u 327 (by decide +kernel) (by decide +kernel)), .inl rfl⟩
theorem pl_X0_15_4 : LkP RX0 15 4 1 .int true := ⟨RX4, TX4, 3, tyX4, rfl, by decide, inX4, .inl (mem_u 327 (by decide +kernel) (by decide +kernel)), tyX4_ok, nmX4, rfl, rfl, fun _ => rfl⟩
theorem fl_X0_15_6 : LkF RX0 15 6 1 := ⟨RX6, TX6, 3, RX0, rfl, by decide, inX6, .inl (mem_u 327 (by decide +kernel) (by decide +kernel)), .inl rfl⟩
theorem pl_X0_15_6 : LkP RX0 15 6 1 .int true := ⟨RX6, TX6, 3, tyX6, rfl, by decide, inX6, .inl (mem_u 327 (by decide +kernel) (by decide +kernel)), tyX6_ok, nmX6, rfl, rfl, fun _ => rfl⟩
theorem fl_X0_15_9 : LkF RX0 15 9 1 := ⟨RX9, TX9, 3, RX0, rfl, by decide, inX9, .inl (mem_u 327 (by decide +kernel) (by decide +kernel)), .inl rfl⟩
theorem pl_X0_15_9 : LkP RX0 15 9 1 .int true := ⟨RX9, TX9, 3, tyX9, rfl, by decide, inX9, .inl (mem_u 327 (by decide +kernel) (by decide +kernel)), tyX9_ok, nmX9, rfl, rfl, fun _ => rfl⟩
theorem fl_X4_9_1 : LkF RX4 9 1 1 := ⟨RX1, TX1, 3, RX4, rfl, by decide, inX1, .inl (mem_u 328 (by decide +kernel) (by decide +kernel)), .inr (mem_u 329 (by decide +kernel) (by decide +kernel))⟩
theorem fl_X4_9_4 : LkF RX4 9 4 1 := ⟨RX4, TX4, 3, RX4, rfl, by decide, inX4, .inl (mem_u 328 (by decide +kernel) (by decide +kernel)), .inr (mem_u 329 (by decide +kernel) (by decide +kernel))⟩
theorem fl_X11_113_0 : LkF RX11 113 0 1 := ⟨RX0, TX0, 3, RX0, rfl, by decide, inX0, .inl (mem_u 330 (by decide +kernel) (by decide +kernel)), .inl rfl⟩
theorem fl_X11_113_1 : LkF RX11 113 1 1 := ⟨RX1, TX1, 3, RX0, rfl, by decide, inX1, .inl (mem_u 330 (by decide +kernel) (by decide +kernel)), .inl rfl⟩
theorem fl_X11_113_4 : LkF RX11 113 4 1 := ⟨RX4, TX4, 3, RX0, rfl, by decide, inX4, .inl (mem_u 330 (by decide +kernel) (by decide +kernel)), .inl rfl⟩
theorem fl_X11_113_6 : LkF RX11 113 6 1 := ⟨RX6, TX6, 3, RX0, rfl, by decide, inX6, .inl (mem_u 330 (by decide +kernel) (by decide +kernel)), .inl rfl⟩
theorem fl_X11_113_9 : LkF RX11 113 9 1 := ⟨RX9, TX9, 3, RX0, rfl, by decide, inX9, .inl (mem_u 330 (by decide +kernel) (by decide +kernel)), .inl rfl⟩
theorem fl_X0_18_0 : LkF RX0 18 0 2 := ⟨RX0, TX0, 3, RX0, rfl, by decide, inX0, .inl (mem_u 331 (by decide +kernel) (by decide +kernel)), .inl rfl⟩
theorem pl_X0_18_0 : LkP RX0 18 0 2 .int true := ⟨RX0, TX0, 3, tyX0, rfl, by decide, inX0, .inl (mem_u 331 (by decide +kernel) (by decide +kernel)), tyX0_ok, nmX0, rfl, rfl, fun _ => rfl⟩
theorem fl_X0_18_1 : LkF RX0 18 1 2 := ⟨RX1, TX1, 3, RX0, rfl, by decide, inX1, .inl (mem_u 331 (by decide +kernel) (by decide +kernel)), .inl rfl⟩
theorem pl_X0_18_1 : LkP RX0 18 1 2 .int true := ⟨RX1, TX1, 3, tyX1, rfl, by decide, inX1, .inl (mem_u 331 (by decide +kernel) (by decide +kernel)), tyX1_ok, nmX1, rfl, rfl, fun _ => rfl⟩
theorem fl_X0_18_4 : LkF RX0 18 4 2 := ⟨RX4, TX4, 3, RX0, rfl, by decide, inX4, .inl (mem_u 331 (by decide +kernel) (by decide +kernel)), .inl rfl⟩
theorem pl_X0_18_4 : LkP RX0 18 4 2 .int true := ⟨RX4, TX4, 3, tyX4, rfl, by decide, inX4, .inl (mem_u 331 (by decide +kernel) (by decide +kernel)), tyX4_ok, nmX4, rfl, rfl, fun _ => rfl⟩
theorem fl_X0_18_6 : LkF RX0 18 6 2 := ⟨RX6, TX6, 3, RX0, rfl, by decide, inX6, .inl (mem_u 331 (by decide +kernel) (by decide +kernel)), .inl rfl⟩
theorem pl_X0_18_6 : LkP RX0 18 6 2 .int true := ⟨RX6, TX6, 3, tyX6, rfl, by decide, inX6, .inl (mem_u 331 (by decide +kernel) (by decide +kernel)), tyX6_ok, nmX6, rfl, rfl, fun _ => rfl⟩
theorem fl_X0_18_9 : LkF RX0 18 9 2 := ⟨RX9, TX9, 3, RX0, rfl, by decide, inX9, .inl (mem_u 331 (by decide +kernel) (by decide +kernel)), .inl rfl⟩
theorem pl_X0_18_9 : LkP RX0 18 9 2 .int true := ⟨RX9, TX9, 3, tyX9, rfl, by decide, inX9, .inl (mem_u 331 (by decide +kernel) (by decide +kernel)), tyX9_ok, nmX9, rfl, rfl, fun _ => rfl⟩
theorem fl_X8_57_0 : LkF RX8 57 0 2 := ⟨RX0, TX0, 3, RX0, rfl, by decide, inX0, .inl (mem_u 332 (by decide +kernel) (by decide +kernel)), .inl rfl⟩
theorem fl_X8_57_1 : LkF RX8 57 1 2 := ⟨RX1, TX1, 3, RX0, rfl, by decide, inX1, .inl (mem_u 332 (by decide +kernel) (by decide +kernel)), .inl rfl⟩
theorem fl_X8_57_4 : LkF RX8 57 4 2 := ⟨RX4, TX4, 3, RX0, rfl, by decide, inX4, .inl (mem_u 332 (by decide +kernel) (by decide +kernel)), .inl rfl⟩
theorem fl_X8_57_6 : LkF RX8 57 6 2 := ⟨RX6, TX6, 3, RX0, rfl, by decide, inX6, .inl (mem_u 332 (by decide +kernel) (by decide +kernel)), .inl rfl⟩
theorem fl_X8_57_9 : LkF RX8 57 9 2 := ⟨RX9, TX9, 3, RX0, rfl, by decide, inX9, .inl (mem_u 332 (by decide +kernel) (by decide +kernel)), .inl rfl⟩
theorem fl_X11_116_0 : LkF RX11 116 0 2 := ⟨RX0, TX0, 3, RX0, rfl, by decide, inX0, .inl (mem_u 333 (by decide +kernel) (by decide +kernel)), .inl rfl⟩
theorem fl_X11_116_1 : LkF RX11 116 1 2 := ⟨RX1, TX1, 3, RX0, rfl, by decide, inX1, .inl (mem_u 333 (by decide +kernel) (by decide +kernel)), .inl rfl⟩
theorem fl_X11_116_4 : LkF RX11 116 4 2 := ⟨RX4, TX4, 3, RX0, rfl, by decide, inX4, .inl (mem_u 333 (by decide +kernel) (by decide +kernel)), .inl rfl⟩
theorem fl_X11_116_6 : LkF RX11 116 6 2 := ⟨RX6, TX6, 3, RX0, rfl, by decide, inX6, .inl (mem_u 333 (by decide +kernel) (by decide +kernel)), .inl rfl⟩
theorem fl_X11_116_9 : LkF RX11 116 9 2 := ⟨RX9, TX9, 3, RX0, rfl, by decide, inX9, .inl (mem_u 333 (by decide +kernel) (by decide +kernel)), .inl rfl⟩
theorem fl_X12_112_12 : LkF RX12 112 12 0 := ⟨RX12, TX12, 37, RX12, rfl, by decide, inX12, .inl (mem_u 733 (by decide +kernel) (by decide +kernel)), .inl rfl⟩
theorem pl_X12_112_12 : LkP RX12 112 12 0 .int false := ⟨RX12, TX12, 37, tyX12, rfl, by decide, inX12, .inl (mem_u 733 (by decide +kernel) (by decide +kernel)), tyX12_ok, nmX12, rfl, rfl, fun h => absurd h (by decide)⟩
theorem fl_X12_103_12 : LkF RX12 103 12 1 := ⟨RX12, TX12, 37, RX12, rfl, by decide, inX12, .inl (mem_u 734 (by decide +kernel) (by decide +kernel)), .inl rfl⟩
theorem pl_X12_103_12 : LkP RX12 103 12 1 .int false := ⟨RX12, TX12, 37, tyX12, rfl, by decide, inX12, .inl (mem_u 734 (by decide +kernel) (by decide +kernel)), tyX12_ok, nmX12, rfl, rfl, fun h => absurd h (by decide)⟩
theorem fl_X12_7_12 : LkF RX12 7 12 2 := ⟨RX12, TX12, 37, RX12, rfl, by decide, inX12, .inl (mem_u 735 (by decide +kernel) (by decide +kernel)), .inl rfl⟩
theorem pl_X12_7_12 : LkP RX12 7 12 2 (.array .int) true := ⟨RX12, TX12, 37, tyX12, rfl, by decide, inX12, .inl (mem_u 735 (by decide +kernel) (by decide +kernel)), tyX12_ok, nmX12, rfl, rfl, fun _ => rfl⟩
theorem fl_X12_13_12 : LkF RX12 13 12 3 := ⟨RX12, TX12, 37, RX12, rfl, by decide, inX12, .inl (mem_u 736 (by decide +kernel) (by decide +kernel)), .inl rfl⟩
theorem pl_X12_13_12 : LkP RX12 13 12 3 (.array .int) true := ⟨RX12, TX12, 37, tyX12, rfl, by decide, inX12, .inl (mem_u 736 (by decide +kernel) (by decide +kernel)), tyX12_ok, nmX12, rfl, rfl, fun _ => rfl⟩
theorem fl_X12_16_12 : LkF RX12 16 12 4 := ⟨RX12, TX12, 37, RX12, rfl, by decide, inX12, .inl (mem_u 737 (by decide +kernel) (by decide +kernel)), .inl rfl⟩
theorem pl_X12_16_12 : LkP RX12 16 12 4 (.array .int) true := ⟨RX12, TX12, 37, tyX12, rfl, by decide, inX12, .inl (mem_u 737 (by decide +kernel) (by decide +kernel)), tyX12_ok, nmX12, rfl, rfl, fun _ => rfl⟩
theorem fl_X12_19_12 : LkF RX12 19 12 5 := ⟨RX12, TX12, 37, RX12, rfl, by decide, inX12, .inl (mem_u 738 (by decide +kernel) (by decide +kernel)), .inl rfl⟩
theorem pl_X12_19_12 : LkP RX12 19 12 5 (.array .int) true := ⟨RX12, TX12, 37, tyX12, rfl, by decide, inX12, .inl (mem_u 738 (by decide +kernel) (by decide +kernel)), tyX12_ok, nmX12, rfl, rfl, fun _ => rfl⟩
theorem fl_X12_115_12 : LkF RX12 115 12 6 := ⟨RX12, TX12, 37, RX12, rfl, by decide, inX12, .inl (mem_u 739 (by decide +kernel) (by decide +kernel)), .inl rfl⟩
theorem pl_X12_115_12 : LkP RX12 115 12 6 .int false := ⟨RX12, TX12, 37, tyX12, rfl, by decide, inX12, .inl (mem_u 739 (by decide +kernel) (by decide +kernel)), tyX12_ok, nmX12, rfl, rfl, fun h => absurd h (by decide)⟩
theorem fl_X12_22_12 : LkF RX12 22 12 7 := ⟨RX12, TX12, 37, RX12, rfl, by decide, inX12, .inl (mem_u 740 (by decide +kernel) (by decide +kernel)), .inl rfl⟩
theorem pl_X12_22_12 : LkP RX12 22 12 7 (.array .int) true := ⟨RX12, TX12, 37, tyX12, rfl, by decide, inX12, .inl (mem_u 740 (by decide +kernel) (by decide +kernel)), tyX12_ok, nmX12, rfl, rfl, fun _ => rfl⟩
theorem fl_X12_25_12 : LkF RX12 25 12 8 := ⟨RX12, TX12, 37, RX12, rfl, by decide, inX12, .inl (mem_u 741 (by decide +kernel) (by decide +kernel)), .inl rfl⟩
theorem pl_X12_25_12 : LkP RX12 25 12 8 (.array .int) true := ⟨RX12, TX12, 37, tyX12, rfl, by decide, inX12, .inl (mem_u 741 (by decide +kernel) (by decide +kernel)), tyX12_ok, nmX12, rfl, rfl, fun _ => rfl⟩
theorem fl_X12_28_12 : LkF RX12 28 12 9 := ⟨RX12, TX12, 37, RX12, rfl, by decide, inX12, .inl (mem_u 742 (by decide +kernel) (by decide +kernel)), .inl rfl⟩
theorem pl_X12_28_12 : LkP RX12 28 12 9 (.array .int) true := ⟨RX12, TX12, 37, tyX12, rfl, by decide, inX12, .inl (mem_u 742 (by decide +kernel) (by decide +kernel)), tyX12_ok, nmX12, rfl, rfl, fun _ => rfl⟩
theorem fl_X12_31_12 : LkF RX12 31 12 10 := ⟨RX12, TX12, 37, RX12, rfl, by decide, inX12, .inl (mem_u 743 (by decide +kernel) (by decide +kernel)), .inl rfl⟩
theorem pl_X12_31_12 : LkP RX12 31 12 10 (.array .int) true := ⟨RX12, TX12, 37, tyX12, rfl, by decide, inX12, .inl (mem_u 743 (by decide +kernel) (by decide +kernel)), tyX12_ok, nmX12, rfl, rfl, fun _ => rfl⟩
theorem fl_X12_118_12 : LkF RX12 118 12 11 := ⟨RX12, TX12, 37, RX12, rfl, by decide, inX12, .inl (mem_u 744 (by decide +kernel) (by decide +kernel)), .inl rfl⟩
theorem pl_X12_118_12 : LkP RX12 118 12 11 .int false := ⟨RX12, TX12, 37, tyX12, rfl, by decide, inX12, .inl (mem_u 744 (by decide +kernel) (by decide +kernel)), tyX12_ok, nmX12, rfl, rfl, fun h => absurd h (by decide)⟩
theorem fl_X12_189_12 : LkF RX12 189 12 12 := ⟨RX12, TX12, 37, RX12, rfl, by decide, inX12, .inl (mem_u 745 (by decide +kernel) (by decide +kernel)), .inl rfl⟩
theorem pl_X12_189_12 : LkP RX12 189 12 12 .int false := ⟨RX12, TX12, 37, tyX12, rfl, by decide, inX12, .inl (mem_u 745 (by decide +kernel) (by decide +kernel)), tyX12_ok, nmX12, rfl, rfl, fun h => absurd h (by decide)⟩
theorem fl_X12_81_12 : LkF RX12 81 12 13 := ⟨RX12, TX12, 37, RX12, rfl, by decide, inX12, .inl (mem_u 746 (by decide +kernel) (by decide +kernel)), .inl rfl⟩
theorem pl_X12_81_12 : LkP RX12 81 12 13 .int false := ⟨RX12, TX12, 37, tyX12, rfl, by decide, inX12, .inl (mem_u 746 (by decide +kernel) (by decide +kernel)), tyX12_ok, nmX12, rfl, rfl, fun h => absurd h (by decide)⟩
theorem fl_X12_34_12 : LkF RX12 34 12 14 := ⟨RX12, TX12, 37, RX12, rfl, by decide, inX12, .inl (mem_u 747 (by decide +kernel) (by decide +kernel)), .inl rfl⟩
theorem pl_X12_34_12 : LkP RX12 34 12 14 (.array .byte) true := ⟨RX12, TX12, 37, tyX12, rfl, by decide, inX12, .inl (mem_u 747 (by decide +kernel) (by decide +kernel)), tyX12_ok, nmX12, rfl, rfl, fun _ => rfl⟩
theorem fl_X12_93_12 : LkF RX12 93 12 15 := ⟨RX12, TX12, 37, RX12, rfl, by decide, inX12, .inl (mem_u 748 (by decide +kernel) (by decide +kernel)), .inl rfl⟩
theorem pl_X12_93_12 : LkP RX12 93 12 15 .int false := ⟨RX12, TX12, 37, tyX12, rfl, by decide, inX12, .inl (mem_u 748 (by decide +kernel) (by decide +kernel)), tyX12_ok, nmX12, rfl, rfl, fun h => absurd h (by decide)⟩
theorem fl_X12_96_12 : LkF RX12 96 12 16 := ⟨RX12, TX12, 37, RX12, rfl, by decide, inX12, .inl (mem_u 749 (by decide +kernel) (by decide +kernel)), .inl rfl⟩
theorem pl_X12_96_12 : LkP RX12 96 12 16 .boolean false := ⟨RX12, TX12, 37, tyX12, rfl, by decide, inX12, .inl (mem_u 749 (by decide +kernel) (by decide +kernel)), tyX12_ok, nmX12, rfl, rfl, fun h => absurd h (by decide)⟩
theorem fl_X12_100_12 : LkF RX12 100 12 17 := ⟨RX12, TX12, 37, RX12, rfl, by decide, inX12, .inl (mem_u 750 (by decide +kernel) (by decide +kernel)), .inl rfl⟩
theorem pl_X12_100_12 : LkP RX12 100 12 17 .int false := ⟨RX12, TX12, 37, tyX12, rfl, by decide, inX12, .inl (mem_u 750 (by decide +kernel) (by decide +kernel)), tyX12_ok, nmX12, rfl, rfl, fun h => absurd h (by decide)⟩
theorem fl_X12_38_12 : LkF RX12 38 12 18 := ⟨RX12, TX12, 37, RX12, rfl, by decide, inX12, .inl (mem_u 751 (by decide +kernel) (by decide +kernel)), .inl rfl⟩
theorem pl_X12_38_12 : LkP RX12 38 12 18 (.array .int) true := ⟨RX12, TX12, 37, tyX12, rfl, by decide, inX12, .inl (mem_u 751 (by decide +kernel) (by decide +kernel)), tyX12_ok, nmX12, rfl, rfl, fun _ => rfl⟩
theorem fl_X12_41_12 : LkF RX12 41 12 19 := ⟨RX12, TX12, 37, RX12, rfl, by decide, inX12, .inl (mem_u 752 (by decide +kernel) (by decide +kernel)), .inl rfl⟩
theorem pl_X12_41_12 : LkP RX12 41 12 19 (.array .int) true := ⟨RX12, TX12, 37, tyX12, rfl, by decide, inX12, .inl (mem_u 752 (by decide +kernel) (by decide +kernel)), tyX12_ok, nmX12, rfl, rfl, fun _ => rfl⟩
theorem fl_X12_44_12 : LkF RX12 44 12 20 := ⟨RX12, TX12, 37, RX12, rfl, by decide, inX12, .inl (mem_u 753 (by decide +kernel) (by decide +kernel)), .inl rfl⟩
theorem pl_X12_44_12 : LkP RX12 44 12 20 (.array .int) true := ⟨RX12, TX12, 37, tyX12, rfl, by decide, inX12, .inl (mem_u 753 (by decide +kernel) (by decide +kernel)), tyX12_ok, nmX12, rfl, rfl, fun _ => rfl⟩
theorem fl_X12_47_12 : LkF RX12 47 12 21 := ⟨RX12, TX12, 37, RX12, rfl, by decide, inX12, .inl (mem_u 754 (by decide +kernel) (by decide +kernel)), .inl rfl⟩
theorem pl_X12_47_12 : LkP RX12 47 12 21 (.array .int) true := ⟨RX12, TX12, 37, tyX12, rfl, by decide, inX12, .inl (mem_u 754 (by decide +kernel) (by decide +kernel)), tyX12_ok, nmX12, rfl, rfl, fun _ => rfl⟩
theorem fl_X12_50_12 : LkF RX12 50 12 22 := ⟨RX12, TX12, 37, RX12, rfl, by decide, inX12, .inl (mem_u 755 (by decide +kernel) (by decide +kernel)), .inl rfl⟩
theorem pl_X12_50_12 : LkP RX12 50 12 22 (.array .int) true := ⟨RX12, TX12, 37, tyX12, rfl, by decide, inX12, .inl (mem_u 755 (by decide +kernel) (by decide +kernel)), tyX12_ok, nmX12, rfl, rfl, fun _ => rfl⟩
theorem fl_X12_53_12 : LkF RX12 53 12 23 := ⟨RX12, TX12, 37, RX12, rfl, by decide, inX12, .inl (mem_u 756 (by decide +kernel) (by decide +kernel)), .inl rfl⟩
theorem pl_X12_53_12 : LkP RX12 53 12 23 (.array .int) true := ⟨RX12, TX12, 37, tyX12, rfl, by decide, inX12, .inl (mem_u 756 (by decide +kernel) (by decide +kernel)), tyX12_ok, nmX12, rfl, rfl, fun _ => rfl⟩
theorem fl_X12_56_12 : LkF RX12 56 12 24 := ⟨RX12, TX12, 37, RX12, rfl, by decide, inX12, .inl (mem_u 757 (by decide +kernel) (by decide +kernel)), .inl rfl⟩
theorem pl_X12_56_12 : LkP RX12 56 12 24 (.array .int) true := ⟨RX12, TX12, 37, tyX12, rfl, by decide, inX12, .inl (mem_u 757 (by decide +kernel) (by decide +kernel)), tyX12_ok, nmX12, rfl, rfl, fun _ => rfl⟩
theorem fl_X12_59_12 : LkF RX12 59 12 25 := ⟨RX12, TX12, 37, RX12, rfl, by decide, inX12, .inl (mem_u 758 (by decide +kernel) (by decide +kernel)), .inl rfl⟩
theorem pl_X12_59_12 : LkP RX12 59 12 25 (.array .int) true := ⟨RX12, TX12, 37, tyX12, rfl, by decide, inX12, .inl (mem_u 758 (by decide +kernel) (by decide +kernel)), tyX12_ok, nmX12, rfl, rfl, fun _ => rfl⟩
theorem fl_X12_197_12 : LkF RX12 197 12 26 := ⟨RX12, TX12, 37, RX12, rfl, by decide, inX12, .inl (mem_u 759 (by decide +kernel) (by decide +kernel)), .inl rfl⟩
theorem pl_X12_197_12 : LkP RX12 197 12 26 .long false := ⟨RX12, TX12, 37, tyX12, rfl, by decide, inX12, .inl (mem_u 759 (by decide +kernel) (by decide +kernel)), tyX12_ok, nmX12, rfl, rfl, fun h => absurd h (by decide)⟩
theorem fl_X12_62_12 : LkF RX12 62 12 27 := ⟨RX12, TX12, 37, RX12, rfl, by decide, inX12, .inl (mem_u 760 (by decide +kernel) (by decide +kernel)), .inl rfl⟩
theorem pl_X12_62_12 : LkP RX12 62 12 27 (.array .int) true := ⟨RX12, TX12, 37, tyX12, rfl, by decide, inX12, .inl (mem_u 760 (by decide +kernel) (by decide +kernel)), tyX12_ok, nmX12, rfl, rfl, fun _ => rfl⟩
theorem fl_X12_216_12 : LkF RX12 216 12 28 := ⟨RX12, TX12, 37, RX12, rfl, by decide, inX12, .inl (mem_u 761 (by decide +kernel) (by decide +kernel)), .inl rfl⟩
theorem pl_X12_216_12 : LkP RX12 216 12 28 .boolean false := ⟨RX12, TX12, 37, tyX12, rfl, by decide, inX12, .inl (mem_u 761 (by decide +kernel) (by decide +kernel)), tyX12_ok, nmX12, rfl, rfl, fun h => absurd h (by decide)⟩
theorem fl_X12_219_12 : LkF RX12 219 12 29 := ⟨RX12, TX12, 37, RX12, rfl, by decide, inX12, .inl (mem_u 762 (by decide +kernel) (by decide +kernel)), .inl rfl⟩
theorem pl_X12_219_12 : LkP RX12 219 12 29 .int false := ⟨RX12, TX12, 37, tyX12, rfl, by decide, inX12, .inl (mem_u 762 (by decide +kernel) (by decide +kernel)), tyX12_ok, nmX12, rfl, rfl, fun h => absurd h (by decide)⟩
theorem fl_X12_222_12 : LkF RX12 222 12 30 := ⟨RX12, TX12, 37, RX12, rfl, by decide, inX12, .inl (mem_u 763 (by decide +kernel) (by decide +kernel)), .inl rfl⟩
theorem pl_X12_222_12 : LkP RX12 222 12 30 .int false := ⟨RX12, TX12, 37, tyX12, rfl, by decide, inX12, .inl (mem_u 763 (by decide +kernel) (by decide +kernel)), tyX12_ok, nmX12, rfl, rfl, fun h => absurd h (by decide)⟩
theorem fl_X12_225_12 : LkF RX12 225 12 31 := ⟨RX12, TX12, 37, RX12, rfl, by decide, inX12, .inl (mem_u 764 (by decide +kernel) (by decide +kernel)), .inl rfl⟩
theorem pl_X12_225_12 : LkP RX12 225 12 31 .int false := ⟨RX12, TX12, 37, tyX12, rfl, by decide, inX12, .inl (mem_u 764 (by decide +kernel) (by decide +kernel)), tyX12_ok, nmX12, rfl, rfl, fun h => absurd h (by decide)⟩
theorem fl_X12_65_12 : LkF RX12 65 12 32 := ⟨RX12, TX12, 37, RX12, rfl, by decide, inX12, .inl (mem_u 765 (by decide +kernel) (by decide +kernel)), .inl rfl⟩
theorem pl_X12_65_12 : LkP RX12 65 12 32 (.array .int) true := ⟨RX12, TX12, 37, tyX12, rfl, by decide, inX12, .inl (mem_u 765 (by decide +kernel) (by decide +kernel)), tyX12_ok, nmX12, rfl, rfl, fun _ => rfl⟩
theorem fl_X12_68_12 : LkF RX12 68 12 33 := ⟨RX12, TX12, 37, RX12, rfl, by decide, inX12, .inl (mem_u 766 (by decide +kernel) (by decide +kernel)), .inl rfl⟩
theorem pl_X12_68_12 : LkP RX12 68 12 33 (.array .int) true := ⟨RX12, TX12, 37, tyX12, rfl, by decide, inX12, .inl (mem_u 766 (by decide +kernel) (by decide +kernel)), tyX12_ok, nmX12, rfl, rfl, fun _ => rfl⟩
theorem fl_X12_71_12 : LkF RX12 71 12 34 := ⟨RX12, TX12, 37, RX12, rfl, by decide, inX12, .inl (mem_u 767 (by decide +kernel) (by decide +kernel)), .inl rfl⟩
theorem pl_X12_71_12 : LkP RX12 71 12 34 (.array .int) true := ⟨RX12, TX12, 37, tyX12, rfl, by decide, inX12, .inl (mem_u 767 (by decide +kernel) (by decide +kernel)), tyX12_ok, nmX12, rfl, rfl, fun _ => rfl⟩
theorem fl_X12_74_12 : LkF RX12 74 12 35 := ⟨RX12, TX12, 37, RX12, rfl, by decide, inX12, .inl (mem_u 768 (by decide +kernel) (by decide +kernel)), .inl rfl⟩
theorem pl_X12_74_12 : LkP RX12 74 12 35 (.array .int) true := ⟨RX12, TX12, 37, tyX12, rfl, by decide, inX12, .inl (mem_u 768 (by decide +kernel) (by decide +kernel)), tyX12_ok, nmX12, rfl, rfl, fun _ => rfl⟩
theorem fl_X12_239_12 : LkF RX12 239 12 36 := ⟨RX12, TX12, 37, RX12, rfl, by decide, inX12, .inl (mem_u 769 (by decide +kernel) (by decide +kernel)), .inl rfl⟩
theorem pl_X12_239_12 : LkP RX12 239 12 36 .long false := ⟨RX12, TX12, 37, tyX12, rfl, by decide, inX12, .inl (mem_u 769 (by decide +kernel) (by decide +kernel)), tyX12_ok, nmX12, rfl, rfl, fun h => absurd h (by decide)⟩
theorem fl_X11_61_2 : LkF RX11 61 2 1 := ⟨RX2, TX2, 2, RX2, rfl, by decide, inX2, .inr ⟨"LentChanged", mem_u 71 (by decide +kernel) (by decide +kernel)⟩, .inl rfl⟩
theorem pl_X11_61_2 : LkP RX11 61 2 1 .int false := ⟨RX2, TX2, 2, tyX2, rfl, by decide, inX2, .inr ⟨"LentChanged", mem_u 71 (by decide +kernel) (by decide +kernel)⟩, tyX2_ok, nmX2, rfl, rfl, fun h => absurd h (by decide)⟩
theorem fl_X8_60_2 : LkF RX8 60 2 1 := ⟨RX2, TX2, 2, RX2, rfl, by decide, inX2, .inr ⟨"LentChanged", mem_u 72 (by decide +kernel) (by decide +kernel)⟩, .inl rfl⟩
theorem pl_X8_60_2 : LkP RX8 60 2 1 .int false := ⟨RX2, TX2, 2, tyX2, rfl, by decide, inX2, .inr ⟨"LentChanged", mem_u 72 (by decide +kernel) (by decide +kernel)⟩, tyX2_ok, nmX2, rfl, rfl, fun h => absurd h (by decide)⟩
theorem fl_X5_26_8 : LkF RX5 26 8 4 := ⟨RX8, TX8, 5, RX8, rfl, by decide, inX8, .inr ⟨"LentChanged", mem_u 92 (by decide +kernel) (by decide +kernel)⟩, .inl rfl⟩
theorem pl_X5_26_8 : LkP RX5 26 8 4 .int false := ⟨RX8, TX8, 5, tyX8, rfl, by decide, inX8, .inr ⟨"LentChanged", mem_u 92 (by decide +kernel) (by decide +kernel)⟩, tyX8_ok, nmX8, rfl, rfl, fun h => absurd h (by decide)⟩
theorem fl_X11_73_8 : LkF RX11 73 8 4 := ⟨RX8, TX8, 5, RX8, rfl, by decide, inX8, .inr ⟨"LentChanged", mem_u 93 (by decide +kernel) (by decide +kernel)⟩, .inl rfl⟩
theorem pl_X11_73_8 : LkP RX11 73 8 4 .int false := ⟨RX8, TX8, 5, tyX8, rfl, by decide, inX8, .inr ⟨"LentChanged", mem_u 93 (by decide +kernel) (by decide +kernel)⟩, tyX8_ok, nmX8, rfl, rfl, fun h => absurd h (by decide)⟩
theorem fl_X3_47_8 : LkF RX3 47 8 4 := ⟨RX8, TX8, 5, RX8, rfl, by decide, inX8, .inr ⟨"LentChanged", mem_u 94 (by decide +kernel) (by decide +kernel)⟩, .inl rfl⟩
theorem pl_X3_47_8 : LkP RX3 47 8 4 .int false := ⟨RX8, TX8, 5, tyX8, rfl, by decide, inX8, .inr ⟨"LentChanged", mem_u 94 (by decide +kernel) (by decide +kernel)⟩, tyX8_ok, nmX8, rfl, rfl, fun h => absurd h (by decide)⟩
theorem fl_X10_61_8 : LkF RX10 61 8 4 := ⟨RX8, TX8, 5, RX8, rfl, by decide, inX8, .inr ⟨"LentChanged", mem_u 95 (by decide +kernel) (by decide +kernel)⟩, .inl rfl⟩
theorem pl_X10_61_8 : LkP RX10 61 8 4 .int false := ⟨RX8, TX8, 5, tyX8, rfl, by decide, inX8, .inr ⟨"LentChanged", mem_u 95 (by decide +kernel) (by decide +kernel)⟩, tyX8_ok, nmX8, rfl, rfl, fun h => absurd h (by decide)⟩
theorem fl_X7_74_8 : LkF RX7 74 8 4 := ⟨RX8, TX8, 5, RX8, rfl, by decide, inX8, .inr ⟨"LentChanged", mem_u 96 (by decide +kernel) (by decide +kernel)⟩, .inl rfl⟩
theorem pl_X7_74_8 : LkP RX7 74 8 4 .int false := ⟨RX8, TX8, 5, tyX8, rfl, by decide, inX8, .inr ⟨"LentChanged", mem_u 96 (by decide +kernel) (by decide +kernel)⟩, tyX8_ok, nmX8, rfl, rfl, fun h => absurd h (by decide)⟩
theorem fl_X11_133_7 : LkF RX11 133 7 4 := ⟨RX7, TX7, 8, RX7, rfl, by decide, inX7, .inr ⟨"LentChanged", mem_u 119 (by decide +kernel) (by decide +kernel)⟩, .inl rfl⟩
theorem pl_X11_133_7 : LkP RX11 133 7 4 .int false := ⟨RX7, TX7, 8, tyX7, rfl, by decide, inX7, .inr ⟨"LentChanged", mem_u 119 (by decide +kernel) (by decide +kernel)⟩, tyX7_ok, nmX7, rfl, rfl, fun h => absurd h (by decide)⟩
theorem fl_X11_227_7 : LkF RX11 227 7 5 := ⟨RX7, TX7, 8, RX7, rfl, by decide, inX7, .inr ⟨"LentChanged", mem_u 121 (by decide +kernel) (by decide +kernel)⟩, .inl rfl⟩
theorem pl_X11_227_7 : LkP RX11 227 7 5 .int false := ⟨RX7, TX7, 8, tyX7, rfl, by decide, inX7, .inr ⟨"LentChanged", mem_u 121 (by decide +kernel) (by decide +kernel)⟩, tyX7_ok, nmX7, rfl, rfl, fun h => absurd h (by decide)⟩
theorem fl_X11_220_7 : LkF RX11 220 7 7 := ⟨RX7, TX7, 8, RX7, rfl, by decide, inX7, .inr ⟨"LentChanged", mem_u 124 (by decide +kernel) (by decide +kernel)⟩, .inl rfl⟩
theorem pl_X11_220_7 : LkP RX11 220 7 7 .int false := ⟨RX7, TX7, 8, tyX7, rfl, by decide, inX7, .inr ⟨"LentChanged", mem_u 124 (by decide +kernel) (by decide +kernel)⟩, tyX7_ok, nmX7, rfl, rfl, fun h => absurd h (by decide)⟩
theorem fl_X11_179_10 : LkF RX11 179 10 8 := ⟨RX10, TX10, 9, RX10, rfl, by decide, inX10, .inr ⟨"LentChanged", mem_u 157 (by decide +kernel) (by decide +kernel)⟩, .inl rfl⟩
theorem pl_X11_179_10 : LkP RX11 179 10 8 .int false := ⟨RX10, TX10, 9, tyX10, rfl, by decide, inX10, .inr ⟨"LentChanged", mem_u 157 (by decide +kernel) (by decide +kernel)⟩, tyX10_ok, nmX10, rfl, rfl, fun h => absurd h (by decide)⟩
theorem mm_code : Cond.code Lib.Math.min.name Lib.Math.min.code 2 (some .int) ∈ lw_u := mem_u 309 (by decide +kernel) (by decide +kernel)
theorem mm_stat : Cond.static Lib.Math.min.name ∈ lw_u := mem_u 308 (by decide +kernel) (by decide +kernel)
theorem mm_init : Cond.initialized "java/lang/Math" ∈ lw_u := mem_u 48 (by decide +kernel) (by decide +kernel)
theorem mk_J6_bitCount_0f7a4 : MkY yJ6_bitCount_0f7a4 cJ6_bitCount_0f7a4 1 (some .int) 1 := ⟨mem_u 589 (by decide +kernel) (by decide +kernel), mem_u 54 (by decide +kernel) (by decide +kernel), ⟨by decide +kernel, by decide +kernel⟩, by decide +kernel, by decide +kernel⟩
theorem mk_X0_changed : MkY yX0_changed cX0_changed 2 (some .int) 1 := ⟨mem_u 407 (by decide +kernel) (by decide +kernel), mem_u 49 (by decide +kernel) (by decide +kernel), ⟨by decide +kernel, by decide +kernel⟩, by decide +kernel, by decide +kernel⟩
theorem mk_X0_init : MkY yX0_init cX0_init 4 (none) 3 := ⟨mem_u 321 (by decide +kernel) (by decide +kernel), mem_u 49 (by decide +kernel) (by decide +kernel), ⟨by decide +kernel, by decide +kernel⟩, by decide +kernel, by decide +kernel⟩
theorem mk_X0_kind : MkY yX0_kind cX0_kind 1 (some .int) 0 := ⟨mem_u 441 (by decide +kernel) (by decide +kernel), mem_u 49 (by decide +kernel) (by decide +kernel), ⟨by decide +kernel, by decide +kernel⟩, by decide +kernel, by decide +kernel⟩
theorem mk_X0_stateAfter : MkY yX0_stateAfter cX0_stateAfter 3 (some .int) 1 := ⟨mem_u 391 (by decide +kernel) (by decide +kernel), mem_u 49 (by decide +kernel) (by decide +kernel), ⟨by decide +kernel, by decide +kernel⟩, by decide +kernel, by decide +kernel⟩
theorem mk_X10_addAllOf : MkY yX10_addAllOf cX10_addAllOf 7 (none) 1 := ⟨mem_u 554 (by decide +kernel) (by decide +kernel), mem_u 44 (by decide +kernel) (by decide +kernel), ⟨by decide +kernel, by decide +kernel⟩, by decide +kernel, by decide +kernel⟩
theorem mk_X10_addLoan : MkY yX10_addLoan cX10_addLoan 7 (none) 3 := ⟨mem_u 564 (by decide +kernel) (by decide +kernel), mem_u 44 (by decide +kernel) (by decide +kernel), ⟨by decide +kernel, by decide +kernel⟩, by decide +kernel, by decide +kernel⟩
theorem mk_X10_begin : MkY yX10_begin cX10_begin 2 (none) 1 := ⟨mem_u 546 (by decide +kernel) (by decide +kernel), mem_u 44 (by decide +kernel) (by decide +kernel), ⟨by decide +kernel, by decide +kernel⟩, by decide +kernel, by decide +kernel⟩
theorem mk_X10_costOf : MkY yX10_costOf cX10_costOf 2 (some .int) 1 := ⟨mem_u 569 (by decide +kernel) (by decide +kernel), mem_u 44 (by decide +kernel) (by decide +kernel), ⟨by decide +kernel, by decide +kernel⟩, by decide +kernel, by decide +kernel⟩
theorem mk_X10_firstTo : MkY yX10_firstTo cX10_firstTo 2 (some .int) 1 := ⟨mem_u 573 (by decide +kernel) (by decide +kernel), mem_u 44 (by decide +kernel) (by decide +kernel), ⟨by decide +kernel, by decide +kernel⟩, by decide +kernel, by decide +kernel⟩
theorem mk_X10_forget : MkY yX10_forget cX10_forget 1 (none) 0 := ⟨mem_u 416 (by decide +kernel) (by decide +kernel), mem_u 44 (by decide +kernel) (by decide +kernel), ⟨by decide +kernel, by decide +kernel⟩, by decide +kernel, by decide +kernel⟩
theorem mk_X10_init : MkY yX10_init cX10_init 3 (none) 2 := ⟨mem_u 146 (by decide +kernel) (by decide +kernel), mem_u 44 (by decide +kernel) (by decide +kernel), ⟨by decide +kernel, by decide +kernel⟩, by decide +kernel, by decide +kernel⟩
theorem mk_X10_searchFrom : MkY yX10_searchFrom cX10_searchFrom 5 (none) 1 := ⟨mem_u 542 (by decide +kernel) (by decide +kernel), mem_u 44 (by decide +kernel) (by decide +kernel), ⟨by decide +kernel, by decide +kernel⟩, by decide +kernel, by decide +kernel⟩
theorem mk_X11_about : MkY yX11_about cX11_about 4 (some .int) 2 := ⟨mem_u 420 (by decide +kernel) (by decide +kernel), mem_u 40 (by decide +kernel) (by decide +kernel), ⟨by decide +kernel, by decide +kernel⟩, by decide +kernel, by decide +kernel⟩
theorem mk_X11_as : MkY yX11_as cX11_as 4 (some .int) 2 := ⟨mem_u 455 (by decide +kernel) (by decide +kernel), mem_u 40 (by decide +kernel) (by decide +kernel), ⟨by decide +kernel, by decide +kernel⟩, by decide +kernel, by decide +kernel⟩
theorem mk_X11_at : MkY yX11_at cX11_at 2 (some .int) 2 := ⟨mem_u 281 (by decide +kernel) (by decide +kernel), mem_u 40 (by decide +kernel) (by decide +kernel), ⟨by decide +kernel, by decide +kernel⟩, by decide +kernel, by decide +kernel⟩
theorem mk_X11_blank : MkY yX11_blank cX11_blank 2 (some .int) 0 := ⟨mem_u 266 (by decide +kernel) (by decide +kernel), mem_u 40 (by decide +kernel) (by decide +kernel), ⟨by decide +kernel, by decide +kernel⟩, by decide +kernel, by decide +kernel⟩
theorem mk_X11_by : MkY yX11_by cX11_by 3 (some .int) 2 := ⟨mem_u 533 (by decide +kernel) (by decide +kernel), mem_u 40 (by decide +kernel) (by decide +kernel), ⟨by decide +kernel, by decide +kernel⟩, by decide +kernel, by decide +kernel⟩
theorem mk_X11_count : MkY yX11_count cX11_count 2 (some .int) 1 := ⟨mem_u 699 (by decide +kernel) (by decide +kernel), mem_u 40 (by decide +kernel) (by decide +kernel), ⟨by decide +kernel, by decide +kernel⟩, by decide +kernel, by decide +kernel⟩
theorem mk_X11_day : MkY yX11_day cX11_day 1 (some .int) 0 := ⟨mem_u 520 (by decide +kernel) (by decide +kernel), mem_u 40 (by decide +kernel) (by decide +kernel), ⟨by decide +kernel, by decide +kernel⟩, by decide +kernel, by decide +kernel⟩
theorem mk_X11_digest : MkY yX11_digest cX11_digest 5 (some (.long)) 0 := ⟨mem_u 711 (by decide +kernel) (by decide +kernel), mem_u 40 (by decide +kernel) (by decide +kernel), ⟨by decide +kernel, by decide +kernel⟩, by decide +kernel, by decide +kernel⟩
theorem mk_X11_fault : MkY yX11_fault cX11_fault 2 (some .int) 1 := ⟨mem_u 270 (by decide +kernel) (by decide +kernel), mem_u 40 (by decide +kernel) (by decide +kernel), ⟨by decide +kernel, by decide +kernel⟩, by decide +kernel, by decide +kernel⟩
theorem mk_X11_fill : MkY yX11_fill cX11_fill 3 (none) 2 := ⟨mem_u 549 (by decide +kernel) (by decide +kernel), mem_u 40 (by decide +kernel) (by decide +kernel), ⟨by decide +kernel, by decide +kernel⟩, by decide +kernel, by decide +kernel⟩
theorem mk_X11_hands : MkY yX11_hands cX11_hands 5 (some .int) 4 := ⟨mem_u 628 (by decide +kernel) (by decide +kernel), mem_u 40 (by decide +kernel) (by decide +kernel), ⟨by decide +kernel, by decide +kernel⟩, by decide +kernel, by decide +kernel⟩
theorem mk_X11_image : MkY yX11_image cX11_image 1 (some .int) 0 := ⟨mem_u 687 (by decide +kernel) (by decide +kernel), mem_u 40 (by decide +kernel) (by decide +kernel), ⟨by decide +kernel, by decide +kernel⟩, by decide +kernel, by decide +kernel⟩
theorem mk_X11_init : MkY yX11_init cX11_init 1 (none) 0 := ⟨mem_u 59 (by decide +kernel) (by decide +kernel), mem_u 40 (by decide +kernel) (by decide +kernel), ⟨by decide +kernel, by decide +kernel⟩, by decide +kernel, by decide +kernel⟩
theorem mk_X11_isOfKind : MkY yX11_isOfKind cX11_isOfKind 2 (some (.boolean)) 2 := ⟨mem_u 458 (by decide +kernel) (by decide +kernel), mem_u 40 (by decide +kernel) (by decide +kernel), ⟨by decide +kernel, by decide +kernel⟩, by decide +kernel, by decide +kernel⟩
theorem mk_X11_isState : MkY yX11_isState cX11_isState 1 (some (.boolean)) 1 := ⟨mem_u 469 (by decide +kernel) (by decide +kernel), mem_u 40 (by decide +kernel) (by decide +kernel), ⟨by decide +kernel, by decide +kernel⟩, by decide +kernel, by decide +kernel⟩
theorem mk_X11_lend : MkY yX11_lend cX11_lend 4 (some .int) 2 := ⟨mem_u 511 (by decide +kernel) (by decide +kernel), mem_u 40 (by decide +kernel) (by decide +kernel), ⟨by decide +kernel, by decide +kernel⟩, by decide +kernel, by decide +kernel⟩
theorem mk_X11_letter : MkY yX11_letter cX11_letter 2 (some .int) 1 := ⟨mem_u 255 (by decide +kernel) (by decide +kernel), mem_u 40 (by decide +kernel) (by decide +kernel), ⟨by decide +kernel, by decide +kernel⟩, by decide +kernel, by decide +kernel⟩
theorem mk_X11_mixedThing : MkY yX11_mixedThing cX11_mixedThing 7 (some (.long)) 2 := ⟨mem_u 718 (by decide +kernel) (by decide +kernel), mem_u 40 (by decide +kernel) (by decide +kernel), ⟨by decide +kernel, by decide +kernel⟩, by decide +kernel, by decide +kernel⟩
theorem mk_X11_put : MkY yX11_put cX11_put 3 (none) 3 := ⟨mem_u 262 (by decide +kernel) (by decide +kernel), mem_u 40 (by decide +kernel) (by decide +kernel), ⟨by decide +kernel, by decide +kernel⟩, by decide +kernel, by decide +kernel⟩
theorem mk_X11_reach : MkY yX11_reach cX11_reach 2 (some .int) 1 := ⟨mem_u 577 (by decide +kernel) (by decide +kernel), mem_u 40 (by decide +kernel) (by decide +kernel), ⟨by decide +kernel, by decide +kernel⟩, by decide +kernel, by decide +kernel⟩
theorem mk_X11_restore : MkY yX11_restore cX11_restore 1 (some .int) 0 := ⟨mem_u 695 (by decide +kernel) (by decide +kernel), mem_u 40 (by decide +kernel) (by decide +kernel), ⟨by decide +kernel, by decide +kernel⟩, by decide +kernel, by decide +kernel⟩
theorem mk_X11_round : MkY yX11_round cX11_round 3 (some .int) 2 := ⟨mem_u 603 (by decide +kernel) (by decide +kernel), mem_u 40 (by decide +kernel) (by decide +kernel), ⟨by decide +kernel, by decide +kernel⟩, by decide +kernel, by decide +kernel⟩
theorem mk_X11_spoilers : MkY yX11_spoilers cX11_spoilers 4 (some .int) 3 := ⟨mem_u 581 (by decide +kernel) (by decide +kernel), mem_u 40 (by decide +kernel) (by decide +kernel), ⟨by decide +kernel, by decide +kernel⟩, by decide +kernel, by decide +kernel⟩
theorem mk_X11_thing : MkY yX11_thing cX11_thing 2 (some .int) 1 := ⟨mem_u 466 (by decide +kernel) (by decide +kernel), mem_u 40 (by decide +kernel) (by decide +kernel), ⟨by decide +kernel, by decide +kernel⟩, by decide +kernel, by decide +kernel⟩
theorem mk_X11_thingOf : MkY yX11_thingOf cX11_thingOf 3 (some .int) 2 := ⟨mem_u 478 (by decide +kernel) (by decide +kernel), mem_u 40 (by decide +kernel) (by decide +kernel), ⟨by decide +kernel, by decide +kernel⟩, by decide +kernel, by decide +kernel⟩
theorem mk_X11_town : MkY yX11_town cX11_town 1 (some .int) 0 := ⟨mem_u 293 (by decide +kernel) (by decide +kernel), mem_u 40 (by decide +kernel) (by decide +kernel), ⟨by decide +kernel, by decide +kernel⟩, by decide +kernel, by decide +kernel⟩
theorem mk_X11_traitOf : MkY yX11_traitOf cX11_traitOf 2 (some .int) 2 := ⟨mem_u 389 (by decide +kernel) (by decide +kernel), mem_u 40 (by decide +kernel) (by decide +kernel), ⟨by decide +kernel, by decide +kernel⟩, by decide +kernel, by decide +kernel⟩
theorem mk_X11_traitSum : MkY yX11_traitSum cX11_traitSum 1 (some .int) 1 := ⟨mem_u 683 (by decide +kernel) (by decide +kernel), mem_u 40 (by decide +kernel) (by decide +kernel), ⟨by decide +kernel, by decide +kernel⟩, by decide +kernel, by decide +kernel⟩
theorem mk_X11_wished : MkY yX11_wished cX11_wished 5 (some .int) 3 := ⟨mem_u 538 (by decide +kernel) (by decide +kernel), mem_u 40 (by decide +kernel) (by decide +kernel), ⟨by decide +kernel, by decide +kernel⟩, by decide +kernel, by decide +kernel⟩
theorem mk_X11_years : MkY yX11_years cX11_years 4 (some .int) 3 := ⟨mem_u 656 (by decide +kernel) (by decide +kernel), mem_u 40 (by decide +kernel) (by decide +kernel), ⟨by decide +kernel, by decide +kernel⟩, by decide +kernel, by decide +kernel⟩
theorem mk_X12_about : MkY yX12_about cX12_about 3 (some .int) 2 := ⟨mem_u 883 (by decide +kernel) (by decide +kernel), mem_u 47 (by decide +kernel) (by decide +kernel), ⟨by decide +kernel, by decide +kernel⟩, by decide +kernel, by decide +kernel⟩
theorem mk_X12_as : MkY yX12_as cX12_as 4 (some .int) 2 := ⟨mem_u 899 (by decide +kernel) (by decide +kernel), mem_u 47 (by decide +kernel) (by decide +kernel), ⟨by decide +kernel, by decide +kernel⟩, by decide +kernel, by decide +kernel⟩
theorem mk_X12_backNow : MkY yX12_backNow cX12_backNow 4 (some .int) 0 := ⟨mem_u 992 (by decide +kernel) (by decide +kernel), mem_u 47 (by decide +kernel) (by decide +kernel), ⟨by decide +kernel, by decide +kernel⟩, by decide +kernel, by decide +kernel⟩
theorem mk_X12_blank : MkY yX12_blank cX12_blank 2 (some .int) 0 := ⟨mem_u 856 (by decide +kernel) (by decide +kernel), mem_u 47 (by decide +kernel) (by decide +kernel), ⟨by decide +kernel, by decide +kernel⟩, by decide +kernel, by decide +kernel⟩
theorem mk_X12_borrowerNow : MkY yX12_borrowerNow cX12_borrowerNow 4 (some .int) 2 := ⟨mem_u 891 (by decide +kernel) (by decide +kernel), mem_u 47 (by decide +kernel) (by decide +kernel), ⟨by decide +kernel, by decide +kernel⟩, by decide +kernel, by decide +kernel⟩
theorem mk_X12_by : MkY yX12_by cX12_by 3 (some .int) 2 := ⟨mem_u 944 (by decide +kernel) (by decide +kernel), mem_u 47 (by decide +kernel) (by decide +kernel), ⟨by decide +kernel, by decide +kernel⟩, by decide +kernel, by decide +kernel⟩
theorem mk_X12_count : MkY yX12_count cX12_count 2 (some .int) 1 := ⟨mem_u 1039 (by decide +kernel) (by decide +kernel), mem_u 47 (by decide +kernel) (by decide +kernel), ⟨by decide +kernel, by decide +kernel⟩, by decide +kernel, by decide +kernel⟩
theorem mk_X12_day : MkY yX12_day cX12_day 3 (some .int) 0 := ⟨mem_u 940 (by decide +kernel) (by decide +kernel), mem_u 47 (by decide +kernel) (by decide +kernel), ⟨by decide +kernel, by decide +kernel⟩, by decide +kernel, by decide +kernel⟩
theorem mk_X12_digest : MkY yX12_digest cX12_digest 3 (some (.long)) 0 := ⟨mem_u 1055 (by decide +kernel) (by decide +kernel), mem_u 47 (by decide +kernel) (by decide +kernel), ⟨by decide +kernel, by decide +kernel⟩, by decide +kernel, by decide +kernel⟩
theorem mk_X12_draw : MkY yX12_draw cX12_draw 2 (some .int) 1 := ⟨mem_u 1020 (by decide +kernel) (by decide +kernel), mem_u 47 (by decide +kernel) (by decide +kernel), ⟨by decide +kernel, by decide +kernel⟩, by decide +kernel, by decide +kernel⟩
theorem mk_X12_endsOf : MkY yX12_endsOf cX12_endsOf 4 (some .int) 1 := ⟨mem_u 996 (by decide +kernel) (by decide +kernel), mem_u 47 (by decide +kernel) (by decide +kernel), ⟨by decide +kernel, by decide +kernel⟩, by decide +kernel, by decide +kernel⟩
theorem mk_X12_fault : MkY yX12_fault cX12_fault 2 (some .int) 1 := ⟨mem_u 860 (by decide +kernel) (by decide +kernel), mem_u 47 (by decide +kernel) (by decide +kernel), ⟨by decide +kernel, by decide +kernel⟩, by decide +kernel, by decide +kernel⟩
theorem mk_X12_goFrom : MkY yX12_goFrom cX12_goFrom 10 (some (.boolean)) 3 := ⟨mem_u 961 (by decide +kernel) (by decide +kernel), mem_u 47 (by decide +kernel) (by decide +kernel), ⟨by decide +kernel, by decide +kernel⟩, by decide +kernel, by decide +kernel⟩
theorem mk_X12_hands : MkY yX12_hands cX12_hands 5 (some .int) 4 := ⟨mem_u 1000 (by decide +kernel) (by decide +kernel), mem_u 47 (by decide +kernel) (by decide +kernel), ⟨by decide +kernel, by decide +kernel⟩, by decide +kernel, by decide +kernel⟩
theorem mk_X12_handsNow : MkY yX12_handsNow cX12_handsNow 8 (some .int) 4 := ⟨mem_u 1004 (by decide +kernel) (by decide +kernel), mem_u 47 (by decide +kernel) (by decide +kernel), ⟨by decide +kernel, by decide +kernel⟩, by decide +kernel, by decide +kernel⟩
theorem mk_X12_homeState : MkY yX12_homeState cX12_homeState 2 (some .int) 1 := ⟨mem_u 922 (by decide +kernel) (by decide +kernel), mem_u 47 (by decide +kernel) (by decide +kernel), ⟨by decide +kernel, by decide +kernel⟩, by decide +kernel, by decide +kernel⟩
theorem mk_X12_howMany : MkY yX12_howMany cX12_howMany 2 (some .int) 1 := ⟨mem_u 1043 (by decide +kernel) (by decide +kernel), mem_u 47 (by decide +kernel) (by decide +kernel), ⟨by decide +kernel, by decide +kernel⟩, by decide +kernel, by decide +kernel⟩
theorem mk_X12_image : MkY yX12_image cX12_image 2 (some .int) 0 := ⟨mem_u 1031 (by decide +kernel) (by decide +kernel), mem_u 47 (by decide +kernel) (by decide +kernel), ⟨by decide +kernel, by decide +kernel⟩, by decide +kernel, by decide +kernel⟩
theorem mk_X12_init : MkY yX12_init cX12_init 1 (none) 0 := ⟨mem_u 731 (by decide +kernel) (by decide +kernel), mem_u 47 (by decide +kernel) (by decide +kernel), ⟨by decide +kernel, by decide +kernel⟩, by decide +kernel, by decide +kernel⟩
theorem mk_X12_isBorrower : MkY yX12_isBorrower cX12_isBorrower 2 (some (.boolean)) 1 := ⟨mem_u 887 (by decide +kernel) (by decide +kernel), mem_u 47 (by decide +kernel) (by decide +kernel), ⟨by decide +kernel, by decide +kernel⟩, by decide +kernel, by decide +kernel⟩
theorem mk_X12_isGood : MkY yX12_isGood cX12_isGood 4 (some (.boolean)) 1 := ⟨mem_u 868 (by decide +kernel) (by decide +kernel), mem_u 47 (by decide +kernel) (by decide +kernel), ⟨by decide +kernel, by decide +kernel⟩, by decide +kernel, by decide +kernel⟩
theorem mk_X12_isSafe : MkY yX12_isSafe cX12_isSafe 7 (some (.boolean)) 4 := ⟨mem_u 984 (by decide +kernel) (by decide +kernel), mem_u 47 (by decide +kernel) (by decide +kernel), ⟨by decide +kernel, by decide +kernel⟩, by decide +kernel, by decide +kernel⟩
theorem mk_X12_isState : MkY yX12_isState cX12_isState 1 (some (.boolean)) 1 := ⟨mem_u 906 (by decide +kernel) (by decide +kernel), mem_u 47 (by decide +kernel) (by decide +kernel), ⟨by decide +kernel, by decide +kernel⟩, by decide +kernel, by decide +kernel⟩
theorem mk_X12_isThing : MkY yX12_isThing cX12_isThing 2 (some (.boolean)) 1 := ⟨mem_u 914 (by decide +kernel) (by decide +kernel), mem_u 47 (by decide +kernel) (by decide +kernel), ⟨by decide +kernel, by decide +kernel⟩, by decide +kernel, by decide +kernel⟩
theorem mk_X12_kindBy : MkY yX12_kindBy cX12_kindBy 1 (some .int) 1 := ⟨mem_u 871 (by decide +kernel) (by decide +kernel), mem_u 47 (by decide +kernel) (by decide +kernel), ⟨by decide +kernel, by decide +kernel⟩, by decide +kernel, by decide +kernel⟩
theorem mk_X12_layWaves : MkY yX12_layWaves cX12_layWaves 7 (none) 3 := ⟨mem_u 956 (by decide +kernel) (by decide +kernel), mem_u 47 (by decide +kernel) (by decide +kernel), ⟨by decide +kernel, by decide +kernel⟩, by decide +kernel, by decide +kernel⟩
theorem mk_X12_lend : MkY yX12_lend cX12_lend 3 (some .int) 2 := ⟨mem_u 936 (by decide +kernel) (by decide +kernel), mem_u 47 (by decide +kernel) (by decide +kernel), ⟨by decide +kernel, by decide +kernel⟩, by decide +kernel, by decide +kernel⟩
theorem mk_X12_lentMany : MkY yX12_lentMany cX12_lentMany 3 (some .int) 0 := ⟨mem_u 1047 (by decide +kernel) (by decide +kernel), mem_u 47 (by decide +kernel) (by decide +kernel), ⟨by decide +kernel, by decide +kernel⟩, by decide +kernel, by decide +kernel⟩
theorem mk_X12_letter : MkY yX12_letter cX12_letter 2 (some .int) 1 := ⟨mem_u 849 (by decide +kernel) (by decide +kernel), mem_u 47 (by decide +kernel) (by decide +kernel), ⟨by decide +kernel, by decide +kernel⟩, by decide +kernel, by decide +kernel⟩
theorem mk_X12_made : MkY yX12_made cX12_made 6 (some .int) 2 := ⟨mem_u 926 (by decide +kernel) (by decide +kernel), mem_u 47 (by decide +kernel) (by decide +kernel), ⟨by decide +kernel, by decide +kernel⟩, by decide +kernel, by decide +kernel⟩
theorem mk_X12_mix : MkY yX12_mix cX12_mix 3 (none) 1 := ⟨mem_u 1060 (by decide +kernel) (by decide +kernel), mem_u 47 (by decide +kernel) (by decide +kernel), ⟨by decide +kernel, by decide +kernel⟩, by decide +kernel, by decide +kernel⟩
theorem mk_X12_mixThing : MkY yX12_mixThing cX12_mixThing 3 (none) 1 := ⟨mem_u 1065 (by decide +kernel) (by decide +kernel), mem_u 47 (by decide +kernel) (by decide +kernel), ⟨by decide +kernel, by decide +kernel⟩, by decide +kernel, by decide +kernel⟩
theorem mk_X12_reach : MkY yX12_reach cX12_reach 2 (some .int) 1 := ⟨mem_u 965 (by decide +kernel) (by decide +kernel), mem_u 47 (by decide +kernel) (by decide +kernel), ⟨by decide +kernel, by decide +kernel⟩, by decide +kernel, by decide +kernel⟩
theorem mk_X12_reachNow : MkY yX12_reachNow cX12_reachNow 4 (some .int) 1 := ⟨mem_u 969 (by decide +kernel) (by decide +kernel), mem_u 47 (by decide +kernel) (by decide +kernel), ⟨by decide +kernel, by decide +kernel⟩, by decide +kernel, by decide +kernel⟩
theorem mk_X12_readRound : MkY yX12_readRound cX12_readRound 2 (none) 0 := ⟨mem_u 875 (by decide +kernel) (by decide +kernel), mem_u 47 (by decide +kernel) (by decide +kernel), ⟨by decide +kernel, by decide +kernel⟩, by decide +kernel, by decide +kernel⟩
theorem mk_X12_readTown : MkY yX12_readTown cX12_readTown 3 (none) 0 := ⟨mem_u 864 (by decide +kernel) (by decide +kernel), mem_u 47 (by decide +kernel) (by decide +kernel), ⟨by decide +kernel, by decide +kernel⟩, by decide +kernel, by decide +kernel⟩
theorem mk_X12_restore : MkY yX12_restore cX12_restore 2 (some .int) 0 := ⟨mem_u 1035 (by decide +kernel) (by decide +kernel), mem_u 47 (by decide +kernel) (by decide +kernel), ⟨by decide +kernel, by decide +kernel⟩, by decide +kernel, by decide +kernel⟩
theorem mk_X12_round : MkY yX12_round cX12_round 3 (some .int) 2 := ⟨mem_u 988 (by decide +kernel) (by decide +kernel), mem_u 47 (by decide +kernel) (by decide +kernel), ⟨by decide +kernel, by decide +kernel⟩, by decide +kernel, by decide +kernel⟩
theorem mk_X12_rowsWithout : MkY yX12_rowsWithout cX12_rowsWithout 8 (some .int) 4 := ⟨mem_u 1008 (by decide +kernel) (by decide +kernel), mem_u 47 (by decide +kernel) (by decide +kernel), ⟨by decide +kernel, by decide +kernel⟩, by decide +kernel, by decide +kernel⟩
theorem mk_X12_size : MkY yX12_size cX12_size 3 (some .int) 1 := ⟨mem_u 980 (by decide +kernel) (by decide +kernel), mem_u 47 (by decide +kernel) (by decide +kernel), ⟨by decide +kernel, by decide +kernel⟩, by decide +kernel, by decide +kernel⟩
theorem mk_X12_spoilers : MkY yX12_spoilers cX12_spoilers 4 (some .int) 3 := ⟨mem_u 973 (by decide +kernel) (by decide +kernel), mem_u 47 (by decide +kernel) (by decide +kernel), ⟨by decide +kernel, by decide +kernel⟩, by decide +kernel, by decide +kernel⟩
theorem mk_X12_spoilersNow : MkY yX12_spoilersNow cX12_spoilersNow 7 (some .int) 3 := ⟨mem_u 977 (by decide +kernel) (by decide +kernel), mem_u 47 (by decide +kernel) (by decide +kernel), ⟨by decide +kernel, by decide +kernel⟩, by decide +kernel, by decide +kernel⟩
theorem mk_X12_thing : MkY yX12_thing cX12_thing 2 (some .int) 1 := ⟨mem_u 903 (by decide +kernel) (by decide +kernel), mem_u 47 (by decide +kernel) (by decide +kernel), ⟨by decide +kernel, by decide +kernel⟩, by decide +kernel, by decide +kernel⟩
theorem mk_X12_thingNow : MkY yX12_thingNow cX12_thingNow 3 (some .int) 2 := ⟨mem_u 918 (by decide +kernel) (by decide +kernel), mem_u 47 (by decide +kernel) (by decide +kernel), ⟨by decide +kernel, by decide +kernel⟩, by decide +kernel, by decide +kernel⟩
theorem mk_X12_thingOf : MkY yX12_thingOf cX12_thingOf 3 (some .int) 2 := ⟨mem_u 910 (by decide +kernel) (by decide +kernel), mem_u 47 (by decide +kernel) (by decide +kernel), ⟨by decide +kernel, by decide +kernel⟩, by decide +kernel, by decide +kernel⟩
theorem mk_X12_town : MkY yX12_town cX12_town 2 (some .int) 0 := ⟨mem_u 879 (by decide +kernel) (by decide +kernel), mem_u 47 (by decide +kernel) (by decide +kernel), ⟨by decide +kernel, by decide +kernel⟩, by decide +kernel, by decide +kernel⟩
theorem mk_X12_traitIn : MkY yX12_traitIn cX12_traitIn 2 (some .int) 2 := ⟨mem_u 929 (by decide +kernel) (by decide +kernel), mem_u 47 (by decide +kernel) (by decide +kernel), ⟨by decide +kernel, by decide +kernel⟩, by decide +kernel, by decide +kernel⟩
theorem mk_X12_traitsAll : MkY yX12_traitsAll cX12_traitsAll 3 (some .int) 0 := ⟨mem_u 1051 (by decide +kernel) (by decide +kernel), mem_u 47 (by decide +kernel) (by decide +kernel), ⟨by decide +kernel, by decide +kernel⟩, by decide +kernel, by decide +kernel⟩
theorem mk_X12_traitsIn : MkY yX12_traitsIn cX12_traitsIn 1 (some .int) 1 := ⟨mem_u 1027 (by decide +kernel) (by decide +kernel), mem_u 47 (by decide +kernel) (by decide +kernel), ⟨by decide +kernel, by decide +kernel⟩, by decide +kernel, by decide +kernel⟩
theorem mk_X12_whoseThing : MkY yX12_whoseThing cX12_whoseThing 4 (some .int) 1 := ⟨mem_u 895 (by decide +kernel) (by decide +kernel), mem_u 47 (by decide +kernel) (by decide +kernel), ⟨by decide +kernel, by decide +kernel⟩, by decide +kernel, by decide +kernel⟩
theorem mk_X12_wished : MkY yX12_wished cX12_wished 4 (some .int) 3 := ⟨mem_u 948 (by decide +kernel) (by decide +kernel), mem_u 47 (by decide +kernel) (by decide +kernel), ⟨by decide +kernel, by decide +kernel⟩, by decide +kernel, by decide +kernel⟩
theorem mk_X12_wishedNow : MkY yX12_wishedNow cX12_wishedNow 4 (some .int) 3 := ⟨mem_u 952 (by decide +kernel) (by decide +kernel), mem_u 47 (by decide +kernel) (by decide +kernel), ⟨by decide +kernel, by decide +kernel⟩, by decide +kernel, by decide +kernel⟩
theorem mk_X12_with : MkY yX12_with cX12_with 3 (some .int) 3 := ⟨mem_u 932 (by decide +kernel) (by decide +kernel), mem_u 47 (by decide +kernel) (by decide +kernel), ⟨by decide +kernel, by decide +kernel⟩, by decide +kernel, by decide +kernel⟩
theorem mk_X12_within : MkY yX12_within cX12_within 3 (some (.boolean)) 3 := ⟨mem_u 852 (by decide +kernel) (by decide +kernel), mem_u 47 (by decide +kernel) (by decide +kernel), ⟨by decide +kernel, by decide +kernel⟩, by decide +kernel, by decide +kernel⟩
theorem mk_X12_years : MkY yX12_years cX12_years 4 (some .int) 3 := ⟨mem_u 1012 (by decide +kernel) (by decide +kernel), mem_u 47 (by decide +kernel) (by decide +kernel), ⟨by decide +kernel, by decide +kernel⟩, by decide +kernel, by decide +kernel⟩
theorem mk_X12_yearsNow : MkY yX12_yearsNow cX12_yearsNow 7 (some .int) 3 := ⟨mem_u 1016 (by decide +kernel) (by decide +kernel), mem_u 47 (by decide +kernel) (by decide +kernel), ⟨by decide +kernel, by decide +kernel⟩, by decide +kernel, by decide +kernel⟩
theorem mk_X1_changed : MkY yX1_changed cX1_changed 2 (some .int) 1 := ⟨mem_u 399 (by decide +kernel) (by decide +kernel), mem_u 53 (by decide +kernel) (by decide +kernel), ⟨by decide +kernel, by decide +kernel⟩, by decide +kernel, by decide +kernel⟩
theorem mk_X1_init : MkY yX1_init cX1_init 4 (none) 3 := ⟨mem_u 365 (by decide +kernel) (by decide +kernel), mem_u 53 (by decide +kernel) (by decide +kernel), ⟨by decide +kernel, by decide +kernel⟩, by decide +kernel, by decide +kernel⟩
theorem mk_X1_kind : MkY yX1_kind cX1_kind 1 (some .int) 0 := ⟨mem_u 431 (by decide +kernel) (by decide +kernel), mem_u 53 (by decide +kernel) (by decide +kernel), ⟨by decide +kernel, by decide +kernel⟩, by decide +kernel, by decide +kernel⟩
theorem mk_X2_add : MkY yX2_add cX2_add 2 (none) 1 := ⟨mem_u 259 (by decide +kernel) (by decide +kernel), mem_u 41 (by decide +kernel) (by decide +kernel), ⟨by decide +kernel, by decide +kernel⟩, by decide +kernel, by decide +kernel⟩
theorem mk_X2_borrowerFrom : MkY yX2_borrowerFrom cX2_borrowerFrom 6 (some (.object "LentChanged$Adder")) 1 := ⟨mem_u 313 (by decide +kernel) (by decide +kernel), mem_u 41 (by decide +kernel) (by decide +kernel), ⟨by decide +kernel, by decide +kernel⟩, by decide +kernel, by decide +kernel⟩
theorem mk_X2_borrowers : MkY yX2_borrowers cX2_borrowers 1 (some .int) 0 := ⟨mem_u 306 (by decide +kernel) (by decide +kernel), mem_u 41 (by decide +kernel) (by decide +kernel), ⟨by decide +kernel, by decide +kernel⟩, by decide +kernel, by decide +kernel⟩
theorem mk_X2_codeAt : MkY yX2_codeAt cX2_codeAt 2 (some .int) 1 := ⟨mem_u 725 (by decide +kernel) (by decide +kernel), mem_u 41 (by decide +kernel) (by decide +kernel), ⟨by decide +kernel, by decide +kernel⟩, by decide +kernel, by decide +kernel⟩
theorem mk_X2_digitAt : MkY yX2_digitAt cX2_digitAt 2 (some .int) 1 := ⟨mem_u 289 (by decide +kernel) (by decide +kernel), mem_u 41 (by decide +kernel) (by decide +kernel), ⟨by decide +kernel, by decide +kernel⟩, by decide +kernel, by decide +kernel⟩
theorem mk_X2_faultOfRound : MkY yX2_faultOfRound cX2_faultOfRound 4 (some .int) 1 := ⟨mem_u 285 (by decide +kernel) (by decide +kernel), mem_u 41 (by decide +kernel) (by decide +kernel), ⟨by decide +kernel, by decide +kernel⟩, by decide +kernel, by decide +kernel⟩
theorem mk_X2_faultOfTown : MkY yX2_faultOfTown cX2_faultOfTown 2 (some .int) 0 := ⟨mem_u 274 (by decide +kernel) (by decide +kernel), mem_u 41 (by decide +kernel) (by decide +kernel), ⟨by decide +kernel, by decide +kernel⟩, by decide +kernel, by decide +kernel⟩
theorem mk_X2_fitsTown : MkY yX2_fitsTown cX2_fitsTown 3 (some (.boolean)) 1 := ⟨mem_u 278 (by decide +kernel) (by decide +kernel), mem_u 41 (by decide +kernel) (by decide +kernel), ⟨by decide +kernel, by decide +kernel⟩, by decide +kernel, by decide +kernel⟩
theorem mk_X2_init : MkY yX2_init cX2_init 1 (none) 0 := ⟨mem_u 67 (by decide +kernel) (by decide +kernel), mem_u 41 (by decide +kernel) (by decide +kernel), ⟨by decide +kernel, by decide +kernel⟩, by decide +kernel, by decide +kernel⟩
theorem mk_X2_isRound : MkY yX2_isRound cX2_isRound 2 (some (.boolean)) 1 := ⟨mem_u 607 (by decide +kernel) (by decide +kernel), mem_u 41 (by decide +kernel) (by decide +kernel), ⟨by decide +kernel, by decide +kernel⟩, by decide +kernel, by decide +kernel⟩
theorem mk_X2_isTown : MkY yX2_isTown cX2_isTown 2 (some (.boolean)) 0 := ⟨mem_u 297 (by decide +kernel) (by decide +kernel), mem_u 41 (by decide +kernel) (by decide +kernel), ⟨by decide +kernel, by decide +kernel⟩, by decide +kernel, by decide +kernel⟩
theorem mk_X3_follow : MkY yX3_follow cX3_follow 5 (none) 2 := ⟨mem_u 632 (by decide +kernel) (by decide +kernel), mem_u 46 (by decide +kernel) (by decide +kernel), ⟨by decide +kernel, by decide +kernel⟩, by decide +kernel, by decide +kernel⟩
theorem mk_X3_howManyTo : MkY yX3_howManyTo cX3_howManyTo 2 (some .int) 1 := ⟨mem_u 648 (by decide +kernel) (by decide +kernel), mem_u 46 (by decide +kernel) (by decide +kernel), ⟨by decide +kernel, by decide +kernel⟩, by decide +kernel, by decide +kernel⟩
theorem mk_X3_inEachTo : MkY yX3_inEachTo cX3_inEachTo 2 (some .int) 1 := ⟨mem_u 652 (by decide +kernel) (by decide +kernel), mem_u 46 (by decide +kernel) (by decide +kernel), ⟨by decide +kernel, by decide +kernel⟩, by decide +kernel, by decide +kernel⟩
theorem mk_X3_init : MkY yX3_init cX3_init 2 (none) 1 := ⟨mem_u 200 (by decide +kernel) (by decide +kernel), mem_u 46 (by decide +kernel) (by decide +kernel), ⟨by decide +kernel, by decide +kernel⟩, by decide +kernel, by decide +kernel⟩
theorem mk_X3_lendToEach : MkY yX3_lendToEach cX3_lendToEach 7 (none) 1 := ⟨mem_u 639 (by decide +kernel) (by decide +kernel), mem_u 46 (by decide +kernel) (by decide +kernel), ⟨by decide +kernel, by decide +kernel⟩, by decide +kernel, by decide +kernel⟩
theorem mk_X3_stepOn : MkY yX3_stepOn cX3_stepOn 2 (none) 0 := ⟨mem_u 644 (by decide +kernel) (by decide +kernel), mem_u 46 (by decide +kernel) (by decide +kernel), ⟨by decide +kernel, by decide +kernel⟩, by decide +kernel, by decide +kernel⟩
theorem mk_X4_changed : MkY yX4_changed cX4_changed 2 (some .int) 1 := ⟨mem_u 402 (by decide +kernel) (by decide +kernel), mem_u 50 (by decide +kernel) (by decide +kernel), ⟨by decide +kernel, by decide +kernel⟩, by decide +kernel, by decide +kernel⟩
theorem mk_X4_init : MkY yX4_init cX4_init 4 (none) 3 := ⟨mem_u 318 (by decide +kernel) (by decide +kernel), mem_u 50 (by decide +kernel) (by decide +kernel), ⟨by decide +kernel, by decide +kernel⟩, by decide +kernel, by decide +kernel⟩
theorem mk_X4_kind : MkY yX4_kind cX4_kind 1 (some .int) 0 := ⟨mem_u 434 (by decide +kernel) (by decide +kernel), mem_u 50 (by decide +kernel) (by decide +kernel), ⟨by decide +kernel, by decide +kernel⟩, by decide +kernel, by decide +kernel⟩
theorem mk_X5_fewest : MkY yX5_fewest cX5_fewest 7 (some .int) 3 := ⟨mem_u 585 (by decide +kernel) (by decide +kernel), mem_u 45 (by decide +kernel) (by decide +kernel), ⟨by decide +kernel, by decide +kernel⟩, by decide +kernel, by decide +kernel⟩
theorem mk_X5_init : MkY yX5_init cX5_init 2 (none) 1 := ⟨mem_u 181 (by decide +kernel) (by decide +kernel), mem_u 45 (by decide +kernel) (by decide +kernel), ⟨by decide +kernel, by decide +kernel⟩, by decide +kernel, by decide +kernel⟩
theorem mk_X5_isSafeWithout : MkY yX5_isSafeWithout cX5_isSafeWithout 11 (some (.boolean)) 4 := ⟨mem_u 596 (by decide +kernel) (by decide +kernel), mem_u 45 (by decide +kernel) (by decide +kernel), ⟨by decide +kernel, by decide +kernel⟩, by decide +kernel, by decide +kernel⟩
theorem mk_X6_init : MkY yX6_init cX6_init 4 (none) 3 := ⟨mem_u 355 (by decide +kernel) (by decide +kernel), mem_u 52 (by decide +kernel) (by decide +kernel), ⟨by decide +kernel, by decide +kernel⟩, by decide +kernel, by decide +kernel⟩
theorem mk_X6_kind : MkY yX6_kind cX6_kind 1 (some .int) 0 := ⟨mem_u 437 (by decide +kernel) (by decide +kernel), mem_u 52 (by decide +kernel) (by decide +kernel), ⟨by decide +kernel, by decide +kernel⟩, by decide +kernel, by decide +kernel⟩
theorem mk_X6_stateAfter : MkY yX6_stateAfter cX6_stateAfter 5 (some .int) 1 := ⟨mem_u 386 (by decide +kernel) (by decide +kernel), mem_u 52 (by decide +kernel) (by decide +kernel), ⟨by decide +kernel, by decide +kernel⟩, by decide +kernel, by decide +kernel⟩
theorem mk_X7_add : MkY yX7_add cX7_add 3 (some .int) 1 := ⟨mem_u 473 (by decide +kernel) (by decide +kernel), mem_u 43 (by decide +kernel) (by decide +kernel), ⟨by decide +kernel, by decide +kernel⟩, by decide +kernel, by decide +kernel⟩
theorem mk_X7_copyFrom : MkY yX7_copyFrom cX7_copyFrom 3 (none) 1 := ⟨mem_u 691 (by decide +kernel) (by decide +kernel), mem_u 43 (by decide +kernel) (by decide +kernel), ⟨by decide +kernel, by decide +kernel⟩, by decide +kernel, by decide +kernel⟩
theorem mk_X7_daysLeftAt : MkY yX7_daysLeftAt cX7_daysLeftAt 3 (some .int) 1 := ⟨mem_u 450 (by decide +kernel) (by decide +kernel), mem_u 43 (by decide +kernel) (by decide +kernel), ⟨by decide +kernel, by decide +kernel⟩, by decide +kernel, by decide +kernel⟩
theorem mk_X7_drawOf : MkY yX7_drawOf cX7_drawOf 2 (some .int) 1 := ⟨mem_u 664 (by decide +kernel) (by decide +kernel), mem_u 43 (by decide +kernel) (by decide +kernel), ⟨by decide +kernel, by decide +kernel⟩, by decide +kernel, by decide +kernel⟩
theorem mk_X7_dreamYears : MkY yX7_dreamYears cX7_dreamYears 7 (none) 3 := ⟨mem_u 660 (by decide +kernel) (by decide +kernel), mem_u 43 (by decide +kernel) (by decide +kernel), ⟨by decide +kernel, by decide +kernel⟩, by decide +kernel, by decide +kernel⟩
theorem mk_X7_empty : MkY yX7_empty cX7_empty 1 (none) 0 := ⟨mem_u 412 (by decide +kernel) (by decide +kernel), mem_u 43 (by decide +kernel) (by decide +kernel), ⟨by decide +kernel, by decide +kernel⟩, by decide +kernel, by decide +kernel⟩
theorem mk_X7_give : MkY yX7_give cX7_give 4 (none) 3 := ⟨mem_u 516 (by decide +kernel) (by decide +kernel), mem_u 43 (by decide +kernel) (by decide +kernel), ⟨by decide +kernel, by decide +kernel⟩, by decide +kernel, by decide +kernel⟩
theorem mk_X7_has : MkY yX7_has cX7_has 2 (some (.boolean)) 1 := ⟨mem_u 482 (by decide +kernel) (by decide +kernel), mem_u 43 (by decide +kernel) (by decide +kernel), ⟨by decide +kernel, by decide +kernel⟩, by decide +kernel, by decide +kernel⟩
theorem mk_X7_holderOf : MkY yX7_holderOf cX7_holderOf 2 (some .int) 1 := ⟨mem_u 491 (by decide +kernel) (by decide +kernel), mem_u 43 (by decide +kernel) (by decide +kernel), ⟨by decide +kernel, by decide +kernel⟩, by decide +kernel, by decide +kernel⟩
theorem mk_X7_howManyLent : MkY yX7_howManyLent cX7_howManyLent 3 (some .int) 0 := ⟨mem_u 703 (by decide +kernel) (by decide +kernel), mem_u 43 (by decide +kernel) (by decide +kernel), ⟨by decide +kernel, by decide +kernel⟩, by decide +kernel, by decide +kernel⟩
theorem mk_X7_init : MkY yX7_init cX7_init 1 (none) 0 := ⟨mem_u 112 (by decide +kernel) (by decide +kernel), mem_u 43 (by decide +kernel) (by decide +kernel), ⟨by decide +kernel, by decide +kernel⟩, by decide +kernel, by decide +kernel⟩
theorem mk_X7_isLent : MkY yX7_isLent cX7_isLent 2 (some (.boolean)) 1 := ⟨mem_u 503 (by decide +kernel) (by decide +kernel), mem_u 43 (by decide +kernel) (by decide +kernel), ⟨by decide +kernel, by decide +kernel⟩, by decide +kernel, by decide +kernel⟩
theorem mk_X7_numberHeldBy : MkY yX7_numberHeldBy cX7_numberHeldBy 3 (some .int) 1 := ⟨mem_u 445 (by decide +kernel) (by decide +kernel), mem_u 43 (by decide +kernel) (by decide +kernel), ⟨by decide +kernel, by decide +kernel⟩, by decide +kernel, by decide +kernel⟩
theorem mk_X7_passDay : MkY yX7_passDay cX7_passDay 4 (some .int) 1 := ⟨mem_u 524 (by decide +kernel) (by decide +kernel), mem_u 43 (by decide +kernel) (by decide +kernel), ⟨by decide +kernel, by decide +kernel⟩, by decide +kernel, by decide +kernel⟩
theorem mk_X7_returnsOf : MkY yX7_returnsOf cX7_returnsOf 2 (some .int) 1 := ⟨mem_u 495 (by decide +kernel) (by decide +kernel), mem_u 43 (by decide +kernel) (by decide +kernel), ⟨by decide +kernel, by decide +kernel⟩, by decide +kernel, by decide +kernel⟩
theorem mk_X7_stateAtHome : MkY yX7_stateAtHome cX7_stateAtHome 4 (some .int) 2 := ⟨mem_u 499 (by decide +kernel) (by decide +kernel), mem_u 43 (by decide +kernel) (by decide +kernel), ⟨by decide +kernel, by decide +kernel⟩, by decide +kernel, by decide +kernel⟩
theorem mk_X7_stateOf : MkY yX7_stateOf cX7_stateOf 2 (some .int) 1 := ⟨mem_u 486 (by decide +kernel) (by decide +kernel), mem_u 43 (by decide +kernel) (by decide +kernel), ⟨by decide +kernel, by decide +kernel⟩, by decide +kernel, by decide +kernel⟩
theorem mk_X7_stateOfFirstThen : MkY yX7_stateOfFirstThen cX7_stateOfFirstThen 1 (some .int) 0 := ⟨mem_u 672 (by decide +kernel) (by decide +kernel), mem_u 43 (by decide +kernel) (by decide +kernel), ⟨by decide +kernel, by decide +kernel⟩, by decide +kernel, by decide +kernel⟩
theorem mk_X7_takeBack : MkY yX7_takeBack cX7_takeBack 3 (none) 2 := ⟨mem_u 528 (by decide +kernel) (by decide +kernel), mem_u 43 (by decide +kernel) (by decide +kernel), ⟨by decide +kernel, by decide +kernel⟩, by decide +kernel, by decide +kernel⟩
theorem mk_X7_traitsOf : MkY yX7_traitsOf cX7_traitsOf 4 (some .int) 1 := ⟨mem_u 680 (by decide +kernel) (by decide +kernel), mem_u 43 (by decide +kernel) (by decide +kernel), ⟨by decide +kernel, by decide +kernel⟩, by decide +kernel, by decide +kernel⟩
theorem mk_X7_traitsTogether : MkY yX7_traitsTogether cX7_traitsTogether 1 (some .int) 0 := ⟨mem_u 707 (by decide +kernel) (by decide +kernel), mem_u 43 (by decide +kernel) (by decide +kernel), ⟨by decide +kernel, by decide +kernel⟩, by decide +kernel, by decide +kernel⟩
theorem mk_X7_traitsTogetherThen : MkY yX7_traitsTogetherThen cX7_traitsTogetherThen 1 (some .int) 0 := ⟨mem_u 676 (by decide +kernel) (by decide +kernel), mem_u 43 (by decide +kernel) (by decide +kernel), ⟨by decide +kernel, by decide +kernel⟩, by decide +kernel, by decide +kernel⟩
theorem mk_X8_after : MkY yX8_after cX8_after 4 (some .int) 2 := ⟨mem_u 507 (by decide +kernel) (by decide +kernel), mem_u 42 (by decide +kernel) (by decide +kernel), ⟨by decide +kernel, by decide +kernel⟩, by decide +kernel, by decide +kernel⟩
theorem mk_X8_areAllBackAfterOneMore : MkY yX8_areAllBackAfterOneMore cX8_areAllBackAfterOneMore 4 (some (.boolean)) 0 := ⟨mem_u 622 (by decide +kernel) (by decide +kernel), mem_u 42 (by decide +kernel) (by decide +kernel), ⟨by decide +kernel, by decide +kernel⟩, by decide +kernel, by decide +kernel⟩
theorem mk_X8_borrowerAt : MkY yX8_borrowerAt cX8_borrowerAt 2 (some (.object "LentChanged$Adder")) 1 := ⟨mem_u 424 (by decide +kernel) (by decide +kernel), mem_u 42 (by decide +kernel) (by decide +kernel), ⟨by decide +kernel, by decide +kernel⟩, by decide +kernel, by decide +kernel⟩
theorem mk_X8_daysOf : MkY yX8_daysOf cX8_daysOf 3 (some .int) 1 := ⟨mem_u 558 (by decide +kernel) (by decide +kernel), mem_u 42 (by decide +kernel) (by decide +kernel), ⟨by decide +kernel, by decide +kernel⟩, by decide +kernel, by decide +kernel⟩
theorem mk_X8_endOf : MkY yX8_endOf cX8_endOf 5 (some .int) 2 := ⟨mem_u 616 (by decide +kernel) (by decide +kernel), mem_u 42 (by decide +kernel) (by decide +kernel), ⟨by decide +kernel, by decide +kernel⟩, by decide +kernel, by decide +kernel⟩
theorem mk_X8_init : MkY yX8_init cX8_init 1 (none) 0 := ⟨mem_u 83 (by decide +kernel) (by decide +kernel), mem_u 42 (by decide +kernel) (by decide +kernel), ⟨by decide +kernel, by decide +kernel⟩, by decide +kernel, by decide +kernel⟩
theorem mk_X8_read : MkY yX8_read cX8_read 5 (none) 1 := ⟨mem_u 302 (by decide +kernel) (by decide +kernel), mem_u 42 (by decide +kernel) (by decide +kernel), ⟨by decide +kernel, by decide +kernel⟩, by decide +kernel, by decide +kernel⟩
theorem mk_X8_timesUntilBack : MkY yX8_timesUntilBack cX8_timesUntilBack 3 (some .int) 1 := ⟨mem_u 612 (by decide +kernel) (by decide +kernel), mem_u 42 (by decide +kernel) (by decide +kernel), ⟨by decide +kernel, by decide +kernel⟩, by decide +kernel, by decide +kernel⟩
theorem mk_X9_changed : MkY yX9_changed cX9_changed 2 (some .int) 1 := ⟨mem_u 406 (by decide +kernel) (by decide +kernel), mem_u 51 (by decide +kernel) (by decide +kernel), ⟨by decide +kernel, by decide +kernel⟩, by decide +kernel, by decide +kernel⟩
theorem mk_X9_init : MkY yX9_init cX9_init 4 (none) 3 := ⟨mem_u 345 (by decide +kernel) (by decide +kernel), mem_u 51 (by decide +kernel) (by decide +kernel), ⟨by decide +kernel, by decide +kernel⟩, by decide +kernel, by decide +kernel⟩
theorem mk_X9_kind : MkY yX9_kind cX9_kind 1 (some .int) 0 := ⟨mem_u 440 (by decide +kernel) (by decide +kernel), mem_u 51 (by decide +kernel) (by decide +kernel), ⟨by decide +kernel, by decide +kernel⟩, by decide +kernel, by decide +kernel⟩
theorem li_L_9 : LkI R_law 9 yX11_init := ⟨.inl (mem_u 57 (by decide +kernel) (by decide +kernel)), mem_u 58 (by decide +kernel) (by decide +kernel), rfl⟩
theorem lo_X11_1 : Cond.methodLink RX11 1 objectInit ∈ lw_u := mem_u 60 (by decide +kernel) (by decide +kernel)
theorem lo_X2_3 : Cond.methodLink RX2 3 objectInit ∈ lw_u := mem_u 68 (by decide +kernel) (by decide +kernel)
theorem lo_X8_3 : Cond.methodLink RX8 3 objectInit ∈ lw_u := mem_u 84 (by decide +kernel) (by decide +kernel)
theorem lo_X7_3 : Cond.methodLink RX7 3 objectInit ∈ lw_u := mem_u 113 (by decide +kernel) (by decide +kernel)
theorem li_X11_35 : LkI RX11 35 yX10_init := ⟨.inl (mem_u 144 (by decide +kernel) (by decide +kernel)), mem_u 145 (by decide +kernel) (by decide +kernel), rfl⟩
theorem lo_X10_3 : Cond.methodLink RX10 3 objectInit ∈ lw_u := mem_u 147 (by decide +kernel) (by decide +kernel)
theorem li_X11_47 : LkI RX11 47 yX5_init := ⟨.inl (mem_u 179 (by decide +kernel) (by decide +kernel)), mem_u 180 (by decide +kernel) (by decide +kernel), rfl⟩
theorem lo_X5_3 : Cond.methodLink RX5 3 objectInit ∈ lw_u := mem_u 182 (by decide +kernel) (by decide +kernel)
theorem li_X11_56 : LkI RX11 56 yX3_init := ⟨.inl (mem_u 198 (by decide +kernel) (by decide +kernel)), mem_u 199 (by decide +kernel) (by decide +kernel), rfl⟩
theorem lo_X3_3 : Cond.methodLink RX3 3 objectInit ∈ lw_u := mem_u 201 (by decide +kernel) (by decide +kernel)
theorem lv_L_13 : LkV R_law 13 yX11_letter 11 := ⟨mem_u 252 (by decide +kernel) (by decide +kernel), mem_u 253 (by decide +kernel) (by decide +kernel), mem_u 254 (by decide +kernel) (by decide +kernel), _, _, rfl⟩
theorem lv_X11_65 : LkV RX11 65 yX2_add 2 := ⟨mem_u 256 (by decide +kernel) (by decide +kernel), mem_u 257 (by decide +kernel) (by decide +kernel), mem_u 258 (by decide +kernel) (by decide +kernel), _, _, rfl⟩
theorem lv_L_18 : LkV R_law 18 yX11_blank 11 := ⟨mem_u 263 (by decide +kernel) (by decide +kernel), mem_u 264 (by decide +kernel) (by decide +kernel), mem_u 265 (by decide +kernel) (by decide +kernel), _, _, rfl⟩
theorem lv_L_23 : LkV R_law 23 yX11_fault 11 := ⟨mem_u 267 (by decide +kernel) (by decide +kernel), mem_u 268 (by decide +kernel) (by decide +kernel), mem_u 269 (by decide +kernel) (by decide +kernel), _, _, rfl⟩
theorem lv_X11_69 : LkV RX11 69 yX2_faultOfTown 2 := ⟨mem_u 271 (by decide +kernel) (by decide +kernel), mem_u 272 (by decide +kernel) (by decide +kernel), mem_u 273 (by decide +kernel) (by decide +kernel), _, _, rfl⟩
theorem lv_X2_27 : LkV RX2 27 yX2_fitsTown 2 := ⟨mem_u 275 (by decide +kernel) (by decide +kernel), mem_u 277 (by decide +kernel) (by decide +kernel), mem_u 0 (by decide +kernel) (by decide +kernel), _, _, rfl⟩
theorem lv_X11_76 : LkV RX11 76 yX2_faultOfRound 2 := ⟨mem_u 282 (by decide +kernel) (by decide +kernel), mem_u 283 (by decide +kernel) (by decide +kernel), mem_u 284 (by decide +kernel) (by decide +kernel), _, _, rfl⟩
theorem lv_X2_31 : LkV RX2 31 yX2_digitAt 2 := ⟨mem_u 286 (by decide +kernel) (by decide +kernel), mem_u 287 (by decide +kernel) (by decide +kernel), mem_u 288 (by decide +kernel) (by decide +kernel), _, _, rfl⟩
theorem lv_L_27 : LkV R_law 27 yX11_town 11 := ⟨mem_u 290 (by decide +kernel) (by decide +kernel), mem_u 291 (by decide +kernel) (by decide +kernel), mem_u 292 (by decide +kernel) (by decide +kernel), _, _, rfl⟩
theorem lv_X11_80 : LkV RX11 80 yX2_isTown 2 := ⟨mem_u 294 (by decide +kernel) (by decide +kernel), mem_u 295 (by decide +kernel) (by decide +kernel), mem_u 296 (by decide +kernel) (by decide +kernel), _, _, rfl⟩
theorem lv_X2_35 : LkV RX2 35 yX2_faultOfTown 2 := ⟨mem_u 298 (by decide +kernel) (by decide +kernel), mem_u 272 (by decide +kernel) (by decide +kernel), mem_u 273 (by decide +kernel) (by decide +kernel), _, _, rfl⟩
theorem lv_X11_84 : LkV RX11 84 yX8_read 8 := ⟨mem_u 299 (by decide +kernel) (by decide +kernel), mem_u 300 (by decide +kernel) (by decide +kernel), mem_u 301 (by decide +kernel) (by decide +kernel), _, _, rfl⟩
theorem lv_X8_27 : LkV RX8 27 yX2_borrowers 2 := ⟨mem_u 303 (by decide +kernel) (by decide +kernel), mem_u 304 (by decide +kernel) (by decide +kernel), mem_u 305 (by decide +kernel) (by decide +kernel), _, _, rfl⟩
theorem mm_X8_32 : Cond.methodLink RX8 32 Lib.Math.min.name ∈ lw_u := mem_u 307 (by decide +kernel) (by decide +kernel)
theorem lv_X8_42 : LkV RX8 42 yX2_borrowerFrom 2 := ⟨mem_u 310 (by decide +kernel) (by decide +kernel), mem_u 311 (by decide +kernel) (by decide +kernel), mem_u 312 (by decide +kernel) (by decide +kernel), _, _, rfl⟩
theorem li_X2_44 : LkI RX2 44 yX4_init := ⟨.inl (mem_u 316 (by decide +kernel) (by decide +kernel)), mem_u 317 (by decide +kernel) (by decide +kernel), rfl⟩
theorem li_X4_3 : LkI RX4 3 yX0_init := ⟨.inl (mem_u 319 (by decide +kernel) (by decide +kernel)), mem_u 320 (by decide +kernel) (by decide +kernel), rfl⟩
theorem lo_X0_3 : Cond.methodLink RX0 3 objectInit ∈ lw_u := mem_u 322 (by decide +kernel) (by decide +kernel)
theorem li_X2_49 : LkI RX2 49 yX9_init := ⟨.inl (mem_u 343 (by decide +kernel) (by decide +kernel)), mem_u 344 (by decide +kernel) (by decide +kernel), rfl⟩
theorem li_X9_3 : LkI RX9 3 yX0_init := ⟨.inl (mem_u 346 (by decide +kernel) (by decide +kernel)), mem_u 320 (by decide +kernel) (by decide +kernel), rfl⟩
theorem li_X2_52 : LkI RX2 52 yX6_init := ⟨.inl (mem_u 353 (by decide +kernel) (by decide +kernel)), mem_u 354 (by decide +kernel) (by decide +kernel), rfl⟩
theorem li_X6_3 : LkI RX6 3 yX0_init := ⟨.inl (mem_u 356 (by decide +kernel) (by decide +kernel)), mem_u 320 (by decide +kernel) (by decide +kernel), rfl⟩
theorem li_X2_55 : LkI RX2 55 yX1_init := ⟨.inl (mem_u 363 (by decide +kernel) (by decide +kernel)), mem_u 364 (by decide +kernel) (by decide +kernel), rfl⟩
theorem li_X1_3 : LkI RX1 3 yX4_init := ⟨.inl (mem_u 366 (by decide +kernel) (by decide +kernel)), mem_u 317 (by decide +kernel) (by decide +kernel), rfl⟩
theorem li_X2_58 : LkI RX2 58 yX0_init := ⟨.inl (mem_u 373 (by decide +kernel) (by decide +kernel)), mem_u 320 (by decide +kernel) (by decide +kernel), rfl⟩
theorem lv_X8_46 : LkV RX8 46 yX0_stateAfter 0 := ⟨mem_u 378 (by decide +kernel) (by decide +kernel), mem_u 379 (by decide +kernel) (by decide +kernel), mem_u 380 (by decide +kernel) (by decide +kernel), _, _, rfl⟩
theorem lu_X8_46_0 : LkU RX8 46 yX0_stateAfter yX0_stateAfter 0 := ⟨RX0, TX0, 3, RX0, cX0_stateAfter, 3, some .int, rfl, mem_u 378 (by decide +kernel) (by decide +kernel), mem_u 381 (by decide +kernel) (by decide +kernel), mem_u 379 (by decide +kernel) (by decide +kernel), mem_u 391 (by decide +kernel) (by decide +kernel), mem_u 380 (by decide +kernel) (by decide +kernel), mem_u 379 (by decide +kernel) (by decide +kernel), ⟨by decide +kernel, by decide +kernel⟩, rfl⟩
theorem lu_X8_46_1 : LkU RX8 46 yX0_stateAfter yX0_stateAfter 1 := ⟨RX1, TX1, 3, RX0, cX0_stateAfter, 3, some .int, rfl, mem_u 378 (by decide +kernel) (by decide +kernel), mem_u 381 (by decide +kernel) (by decide +kernel), mem_u 379 (by decide +kernel) (by decide +kernel), mem_u 391 (by decide +kernel) (by decide +kernel), mem_u 382 (by decide +kernel) (by decide +kernel), mem_u 379 (by decide +kernel) (by decide +kernel), ⟨by decide +kernel, by decide +kernel⟩, rfl⟩
theorem lu_X8_46_4 : LkU RX8 46 yX0_stateAfter yX0_stateAfter 4 := ⟨RX4, TX4, 3, RX0, cX0_stateAfter, 3, some .int, rfl, mem_u 378 (by decide +kernel) (by decide +kernel), mem_u 381 (by decide +kernel) (by decide +kernel), mem_u 379 (by decide +kernel) (by decide +kernel), mem_u 391 (by decide +kernel) (by decide +kernel), mem_u 383 (by decide +kernel) (by decide +kernel), mem_u 379 (by decide +kernel) (by decide +kernel), ⟨by decide +kernel, by decide +kernel⟩, rfl⟩
theorem lu_X8_46_6 : LkU RX8 46 yX0_stateAfter yX6_stateAfter 6 := ⟨RX6, TX6, 3, RX0, cX0_stateAfter, 3, some .int, rfl, mem_u 378 (by decide +kernel) (by decide +kernel), mem_u 381 (by decide +kernel) (by decide +kernel), mem_u 379 (by decide +kernel) (by decide +kernel), mem_u 391 (by decide +kernel) (by decide +kernel), mem_u 384 (by decide +kernel) (by decide +kernel), mem_u 385 (by decide +kernel) (by decide +kernel), ⟨by decide +kernel, by decide +kernel⟩, rfl⟩
theorem lu_X8_46_9 : LkU RX8 46 yX0_stateAfter yX0_stateAfter 9 := ⟨RX9, TX9, 3, RX0, cX0_stateAfter, 3, some .int, rfl, mem_u 378 (by decide +kernel) (by decide +kernel), mem_u 381 (by decide +kernel) (by decide +kernel), mem_u 379 (by decide +kernel) (by decide +kernel), mem_u 391 (by decide +kernel) (by decide +kernel), mem_u 390 (by decide +kernel) (by decide +kernel), mem_u 379 (by decide +kernel) (by decide +kernel), ⟨by decide +kernel, by decide +kernel⟩, rfl⟩
theorem lv_X0_25 : LkV RX0 25 yX0_changed 0 := ⟨mem_u 393 (by decide +kernel) (by decide +kernel), mem_u 394 (by decide +kernel) (by decide +kernel), mem_u 395 (by decide +kernel) (by decide +kernel), _, _, rfl⟩
theorem lu_X0_25_0 : LkU RX0 25 yX0_changed yX0_changed 0 := ⟨RX0, TX0, 3, RX0, cX0_changed, 2, some .int, rfl, mem_u 393 (by decide +kernel) (by decide +kernel), mem_u 396 (by decide +kernel) (by decide +kernel), mem_u 394 (by decide +kernel) (by decide +kernel), mem_u 407 (by decide +kernel) (by decide +kernel), mem_u 395 (by decide +kernel) (by decide +kernel), mem_u 394 (by decide +kernel) (by decide +kernel), ⟨by decide +kernel, by decide +kernel⟩, rfl⟩
theorem lu_X0_25_1 : LkU RX0 25 yX0_changed yX1_changed 1 := ⟨RX1, TX1, 3, RX0, cX0_changed, 2, some .int, rfl, mem_u 393 (by decide +kernel) (by decide +kernel), mem_u 396 (by decide +kernel) (by decide +kernel), mem_u 394 (by decide +kernel) (by decide +kernel), mem_u 407 (by decide +kernel) (by decide +kernel), mem_u 397 (by decide +kernel) (by decide +kernel), mem_u 398 (by decide +kernel) (by decide +kernel), ⟨by decide +kernel, by decide +kernel⟩, rfl⟩
theorem lu_X0_25_4 : LkU RX0 25 yX0_changed yX4_changed 4 := ⟨RX4, TX4, 3, RX0, cX0_changed, 2, some .int, rfl, mem_u 393 (by decide +kernel) (by decide +kernel), mem_u 396 (by decide +kernel) (by decide +kernel), mem_u 394 (by decide +kernel) (by decide +kernel), mem_u 407 (by decide +kernel) (by decide +kernel), mem_u 400 (by decide +kernel) (by decide +kernel), mem_u 401 (by decide +kernel) (by decide +kernel), ⟨by decide +kernel, by decide +kernel⟩, rfl⟩
theorem lu_X0_25_6 : LkU RX0 25 yX0_changed yX0_changed 6 := ⟨RX6, TX6, 3, RX0, cX0_changed, 2, some .int, rfl, mem_u 393 (by decide +kernel) (by decide +kernel), mem_u 396 (by decide +kernel) (by decide +kernel), mem_u 394 (by decide +kernel) (by decide +kernel), mem_u 407 (by decide +kernel) (by decide +kernel), mem_u 403 (by decide +kernel) (by decide +kernel), mem_u 394 (by decide +kernel) (by decide +kernel), ⟨by decide +kernel, by decide +kernel⟩, rfl⟩
theorem lu_X0_25_9 : LkU RX0 25 yX0_changed yX9_changed 9 := ⟨RX9, TX9, 3, RX0, cX0_changed, 2, some .int, rfl, mem_u 393 (by decide +kernel) (by decide +kernel), mem_u 396 (by decide +kernel) (by decide +kernel), mem_u 394 (by decide +kernel) (by decide +kernel), mem_u 407 (by decide +kernel) (by decide +kernel), mem_u 404 (by decide +kernel) (by decide +kernel), mem_u 405 (by decide +kernel) (by decide +kernel), ⟨by decide +kernel, by decide +kernel⟩, rfl⟩
theorem lv_X11_88 : LkV RX11 88 yX7_empty 7 := ⟨mem_u 409 (by decide +kernel) (by decide +kernel), mem_u 410 (by decide +kernel) (by decide +kernel), mem_u 411 (by decide +kernel) (by decide +kernel), _, _, rfl⟩
theorem lv_X11_91 : LkV RX11 91 yX10_forget 10 := ⟨mem_u 413 (by decide +kernel) (by decide +kernel), mem_u 414 (by decide +kernel) (by decide +kernel), mem_u 415 (by decide +kernel) (by decide +kernel), _, _, rfl⟩
theorem lv_L_31 : LkV R_law 31 yX11_about 11 := ⟨mem_u 417 (by decide +kernel) (by decide +kernel), mem_u 418 (by decide +kernel) (by decide +kernel), mem_u 419 (by decide +kernel) (by decide +kernel), _, _, rfl⟩
theorem lv_X11_101 : LkV RX11 101 yX8_borrowerAt 8 := ⟨mem_u 421 (by decide +kernel) (by decide +kernel), mem_u 422 (by decide +kernel) (by decide +kernel), mem_u 423 (by decide +kernel) (by decide +kernel), _, _, rfl⟩
theorem lv_X11_105 : LkV RX11 105 yX0_kind 0 := ⟨mem_u 425 (by decide +kernel) (by decide +kernel), mem_u 426 (by decide +kernel) (by decide +kernel), mem_u 427 (by decide +kernel) (by decide +kernel), _, _, rfl⟩
theorem lu_X11_105_0 : LkU RX11 105 yX0_kind yX0_kind 0 := ⟨RX0, TX0, 3, RX0, cX0_kind, 1, some .int, rfl, mem_u 425 (by decide +kernel) (by decide +kernel), mem_u 428 (by decide +kernel) (by decide +kernel), mem_u 426 (by decide +kernel) (by decide +kernel), mem_u 441 (by decide +kernel) (by decide +kernel), mem_u 427 (by decide +kernel) (by decide +kernel), mem_u 426 (by decide +kernel) (by decide +kernel), ⟨by decide +kernel, by decide +kernel⟩, rfl⟩
theorem lu_X11_105_1 : LkU RX11 105 yX0_kind yX1_kind 1 := ⟨RX1, TX1, 3, RX0, cX0_kind, 1, some .int, rfl, mem_u 425 (by decide +kernel) (by decide +kernel), mem_u 428 (by decide +kernel) (by decide +kernel), mem_u 426 (by decide +kernel) (by decide +kernel), mem_u 441 (by decide +kernel) (by decide +kernel), mem_u 429 (by decide +kernel) (by decide +kernel), mem_u 430 (by decide +kernel) (by decide +kernel), ⟨by decide +kernel, by decide +kernel⟩, rfl⟩
theorem lu_X11_105_4 : LkU RX11 105 yX0_kind yX4_kind 4 := ⟨RX4, TX4, 3, RX0, cX0_kind, 1, some .int, rfl, mem_u 425 (by decide +kernel) (by decide +kernel), mem_u 428 (by decide +kernel) (by decide +kernel), mem_u 426 (by decide +kernel) (by decide +kernel), mem_u 441 (by decide +kernel) (by decide +kernel), mem_u 432 (by decide +kernel) (by decide +kernel), mem_u 433 (by decide +kernel) (by decide +kernel), ⟨by decide +kernel, by decide +kernel⟩, rfl⟩
theorem lu_X11_105_6 : LkU RX11 105 yX0_kind yX6_kind 6 := ⟨RX6, TX6, 3, RX0, cX0_kind, 1, some .int, rfl, mem_u 425 (by decide +kernel) (by decide +kernel), mem_u 428 (by decide +kernel) (by decide +kernel), mem_u 426 (by decide +kernel) (by decide +kernel), mem_u 441 (by decide +kernel) (by decide +kernel), mem_u 435 (by decide +kernel) (by decide +kernel), mem_u 436 (by decide +kernel) (by decide +kernel), ⟨by decide +kernel, by decide +kernel⟩, rfl⟩
theorem lu_X11_105_9 : LkU RX11 105 yX0_kind yX9_kind 9 := ⟨RX9, TX9, 3, RX0, cX0_kind, 1, some .int, rfl, mem_u 425 (by decide +kernel) (by decide +kernel), mem_u 428 (by decide +kernel) (by decide +kernel), mem_u 426 (by decide +kernel) (by decide +kernel), mem_u 441 (by decide +kernel) (by decide +kernel), mem_u 438 (by decide +kernel) (by decide +kernel), mem_u 439 (by decide +kernel) (by decide +kernel), ⟨by decide +kernel, by decide +kernel⟩, rfl⟩
theorem lv_X11_119 : LkV RX11 119 yX7_numberHeldBy 7 := ⟨mem_u 442 (by decide +kernel) (by decide +kernel), mem_u 443 (by decide +kernel) (by decide +kernel), mem_u 444 (by decide +kernel) (by decide +kernel), _, _, rfl⟩
theorem lv_X11_122 : LkV RX11 122 yX7_daysLeftAt 7 := ⟨mem_u 447 (by decide +kernel) (by decide +kernel), mem_u 448 (by decide +kernel) (by decide +kernel), mem_u 449 (by decide +kernel) (by decide +kernel), _, _, rfl⟩
theorem lv_X7_52 : LkV RX7 52 yX7_numberHeldBy 7 := ⟨mem_u 451 (by decide +kernel) (by decide +kernel), mem_u 443 (by decide +kernel) (by decide +kernel), mem_u 444 (by decide +kernel) (by decide +kernel), _, _, rfl⟩
theorem lv_L_36 : LkV R_law 36 yX11_as 11 := ⟨mem_u 452 (by decide +kernel) (by decide +kernel), mem_u 453 (by decide +kernel) (by decide +kernel), mem_u 454 (by decide +kernel) (by decide +kernel), _, _, rfl⟩
theorem ls_X11_125 : LkS RX11 125 yX11_isOfKind := ⟨.inl (mem_u 456 (by decide +kernel) (by decide +kernel)), mem_u 457 (by decide +kernel) (by decide +kernel)⟩
theorem lv_L_40 : LkV R_law 40 yX11_thing 11 := ⟨mem_u 463 (by decide +kernel) (by decide +kernel), mem_u 464 (by decide +kernel) (by decide +kernel), mem_u 465 (by decide +kernel) (by decide +kernel), _, _, rfl⟩
theorem ls_X11_129 : LkS RX11 129 yX11_isState := ⟨.inl (mem_u 467 (by decide +kernel) (by decide +kernel)), mem_u 468 (by decide +kernel) (by decide +kernel)⟩
theorem lv_X11_134 : LkV RX11 134 yX7_add 7 := ⟨mem_u 470 (by decide +kernel) (by decide +kernel), mem_u 471 (by decide +kernel) (by decide +kernel), mem_u 472 (by decide +kernel) (by decide +kernel), _, _, rfl⟩
theorem lv_L_44 : LkV R_law 44 yX11_thingOf 11 := ⟨mem_u 475 (by decide +kernel) (by decide +kernel), mem_u 476 (by decide +kernel) (by decide +kernel), mem_u 477 (by decide +kernel) (by decide +kernel), _, _, rfl⟩
theorem lv_X11_136 : LkV RX11 136 yX7_has 7 := ⟨mem_u 479 (by decide +kernel) (by decide +kernel), mem_u 480 (by decide +kernel) (by decide +kernel), mem_u 481 (by decide +kernel) (by decide +kernel), _, _, rfl⟩
theorem lv_X11_139 : LkV RX11 139 yX7_stateOf 7 := ⟨mem_u 483 (by decide +kernel) (by decide +kernel), mem_u 484 (by decide +kernel) (by decide +kernel), mem_u 485 (by decide +kernel) (by decide +kernel), _, _, rfl⟩
theorem ls_X11_142 : LkS RX11 142 yX11_traitOf := ⟨.inl (mem_u 487 (by decide +kernel) (by decide +kernel)), mem_u 388 (by decide +kernel) (by decide +kernel)⟩
theorem lv_X11_146 : LkV RX11 146 yX7_holderOf 7 := ⟨mem_u 488 (by decide +kernel) (by decide +kernel), mem_u 489 (by decide +kernel) (by decide +kernel), mem_u 490 (by decide +kernel) (by decide +kernel), _, _, rfl⟩
theorem lv_X11_149 : LkV RX11 149 yX7_returnsOf 7 := ⟨mem_u 492 (by decide +kernel) (by decide +kernel), mem_u 493 (by decide +kernel) (by decide +kernel), mem_u 494 (by decide +kernel) (by decide +kernel), _, _, rfl⟩
theorem lv_X11_152 : LkV RX11 152 yX7_stateAtHome 7 := ⟨mem_u 496 (by decide +kernel) (by decide +kernel), mem_u 497 (by decide +kernel) (by decide +kernel), mem_u 498 (by decide +kernel) (by decide +kernel), _, _, rfl⟩
theorem lv_X7_42 : LkV RX7 42 yX7_isLent 7 := ⟨mem_u 500 (by decide +kernel) (by decide +kernel), mem_u 501 (by decide +kernel) (by decide +kernel), mem_u 502 (by decide +kernel) (by decide +kernel), _, _, rfl⟩
theorem lv_X7_46 : LkV RX7 46 yX8_after 8 := ⟨mem_u 504 (by decide +kernel) (by decide +kernel), mem_u 505 (by decide +kernel) (by decide +kernel), mem_u 506 (by decide +kernel) (by decide +kernel), _, _, rfl⟩
theorem lv_L_48 : LkV R_law 48 yX11_lend 11 := ⟨mem_u 508 (by decide +kernel) (by decide +kernel), mem_u 509 (by decide +kernel) (by decide +kernel), mem_u 510 (by decide +kernel) (by decide +kernel), _, _, rfl⟩
theorem lv_X11_156 : LkV RX11 156 yX7_isLent 7 := ⟨mem_u 512 (by decide +kernel) (by decide +kernel), mem_u 501 (by decide +kernel) (by decide +kernel), mem_u 502 (by decide +kernel) (by decide +kernel), _, _, rfl⟩
theorem lv_X11_159 : LkV RX11 159 yX7_give 7 := ⟨mem_u 513 (by decide +kernel) (by decide +kernel), mem_u 514 (by decide +kernel) (by decide +kernel), mem_u 515 (by decide +kernel) (by decide +kernel), _, _, rfl⟩
theorem lv_L_52 : LkV R_law 52 yX11_day 11 := ⟨mem_u 517 (by decide +kernel) (by decide +kernel), mem_u 518 (by decide +kernel) (by decide +kernel), mem_u 519 (by decide +kernel) (by decide +kernel), _, _, rfl⟩
theorem lv_X11_163 : LkV RX11 163 yX7_passDay 7 := ⟨mem_u 521 (by decide +kernel) (by decide +kernel), mem_u 522 (by decide +kernel) (by decide +kernel), mem_u 523 (by decide +kernel) (by decide +kernel), _, _, rfl⟩
theorem lv_X7_56 : LkV RX7 56 yX7_takeBack 7 := ⟨mem_u 525 (by decide +kernel) (by decide +kernel), mem_u 527 (by decide +kernel) (by decide +kernel), mem_u 1 (by decide +kernel) (by decide +kernel), _, _, rfl⟩
theorem lv_X7_67 : LkV RX7 67 yX7_stateAtHome 7 := ⟨mem_u 529 (by decide +kernel) (by decide +kernel), mem_u 497 (by decide +kernel) (by decide +kernel), mem_u 498 (by decide +kernel) (by decide +kernel), _, _, rfl⟩
theorem lv_L_56 : LkV R_law 56 yX11_by 11 := ⟨mem_u 530 (by decide +kernel) (by decide +kernel), mem_u 531 (by decide +kernel) (by decide +kernel), mem_u 532 (by decide +kernel) (by decide +kernel), _, _, rfl⟩
theorem lv_X11_167 : LkV RX11 167 yX8_after 8 := ⟨mem_u 534 (by decide +kernel) (by decide +kernel), mem_u 505 (by decide +kernel) (by decide +kernel), mem_u 506 (by decide +kernel) (by decide +kernel), _, _, rfl⟩
theorem lv_L_60 : LkV R_law 60 yX11_wished 11 := ⟨mem_u 535 (by decide +kernel) (by decide +kernel), mem_u 536 (by decide +kernel) (by decide +kernel), mem_u 537 (by decide +kernel) (by decide +kernel), _, _, rfl⟩
theorem lv_X11_170 : LkV RX11 170 yX10_searchFrom 10 := ⟨mem_u 539 (by decide +kernel) (by decide +kernel), mem_u 540 (by decide +kernel) (by decide +kernel), mem_u 541 (by decide +kernel) (by decide +kernel), _, _, rfl⟩
theorem lv_X10_43 : LkV RX10 43 yX10_begin 10 := ⟨mem_u 543 (by decide +kernel) (by decide +kernel), mem_u 545 (by decide +kernel) (by decide +kernel), mem_u 2 (by decide +kernel) (by decide +kernel), _, _, rfl⟩
theorem lv_X10_50 : LkV RX10 50 yX10_addAllOf 10 := ⟨mem_u 551 (by decide +kernel) (by decide +kernel), mem_u 553 (by decide +kernel) (by decide +kernel), mem_u 3 (by decide +kernel) (by decide +kernel), _, _, rfl⟩
theorem lv_X10_66 : LkV RX10 66 yX8_daysOf 8 := ⟨mem_u 555 (by decide +kernel) (by decide +kernel), mem_u 556 (by decide +kernel) (by decide +kernel), mem_u 557 (by decide +kernel) (by decide +kernel), _, _, rfl⟩
theorem lv_X8_54 : LkV RX8 54 yX8_borrowerAt 8 := ⟨mem_u 559 (by decide +kernel) (by decide +kernel), mem_u 422 (by decide +kernel) (by decide +kernel), mem_u 423 (by decide +kernel) (by decide +kernel), _, _, rfl⟩
theorem lv_X10_70 : LkV RX10 70 yX10_addLoan 10 := ⟨mem_u 561 (by decide +kernel) (by decide +kernel), mem_u 563 (by decide +kernel) (by decide +kernel), mem_u 4 (by decide +kernel) (by decide +kernel), _, _, rfl⟩
theorem lv_X10_74 : LkV RX10 74 yX8_after 8 := ⟨mem_u 565 (by decide +kernel) (by decide +kernel), mem_u 505 (by decide +kernel) (by decide +kernel), mem_u 506 (by decide +kernel) (by decide +kernel), _, _, rfl⟩
theorem lv_X11_173 : LkV RX11 173 yX10_costOf 10 := ⟨mem_u 566 (by decide +kernel) (by decide +kernel), mem_u 567 (by decide +kernel) (by decide +kernel), mem_u 568 (by decide +kernel) (by decide +kernel), _, _, rfl⟩
theorem lv_X11_176 : LkV RX11 176 yX10_firstTo 10 := ⟨mem_u 570 (by decide +kernel) (by decide +kernel), mem_u 571 (by decide +kernel) (by decide +kernel), mem_u 572 (by decide +kernel) (by decide +kernel), _, _, rfl⟩
theorem lv_L_65 : LkV R_law 65 yX11_reach 11 := ⟨mem_u 574 (by decide +kernel) (by decide +kernel), mem_u 575 (by decide +kernel) (by decide +kernel), mem_u 576 (by decide +kernel) (by decide +kernel), _, _, rfl⟩
theorem lv_L_69 : LkV R_law 69 yX11_spoilers 11 := ⟨mem_u 578 (by decide +kernel) (by decide +kernel), mem_u 579 (by decide +kernel) (by decide +kernel), mem_u 580 (by decide +kernel) (by decide +kernel), _, _, rfl⟩
theorem lv_X11_182 : LkV RX11 182 yX5_fewest 5 := ⟨mem_u 582 (by decide +kernel) (by decide +kernel), mem_u 583 (by decide +kernel) (by decide +kernel), mem_u 584 (by decide +kernel) (by decide +kernel), _, _, rfl⟩
theorem ls_X5_32 : LkS RX5 32 yJ6_bitCount_0f7a4 := ⟨.inl (mem_u 587 (by decide +kernel) (by decide +kernel)), mem_u 588 (by decide +kernel) (by decide +kernel)⟩
theorem lv_X5_38 : LkV RX5 38 yX5_isSafeWithout 5 := ⟨mem_u 593 (by decide +kernel) (by decide +kernel), mem_u 595 (by decide +kernel) (by decide +kernel), mem_u 5 (by decide +kernel) (by decide +kernel), _, _, rfl⟩
theorem lv_X5_53 : LkV RX5 53 yX8_after 8 := ⟨mem_u 599 (by decide +kernel) (by decide +kernel), mem_u 505 (by decide +kernel) (by decide +kernel), mem_u 506 (by decide +kernel) (by decide +kernel), _, _, rfl⟩
theorem lv_L_73 : LkV R_law 73 yX11_round 11 := ⟨mem_u 600 (by decide +kernel) (by decide +kernel), mem_u 601 (by decide +kernel) (by decide +kernel), mem_u 602 (by decide +kernel) (by decide +kernel), _, _, rfl⟩
theorem lv_X11_186 : LkV RX11 186 yX2_isRound 2 := ⟨mem_u 604 (by decide +kernel) (by decide +kernel), mem_u 605 (by decide +kernel) (by decide +kernel), mem_u 606 (by decide +kernel) (by decide +kernel), _, _, rfl⟩
theorem lv_X2_39 : LkV RX2 39 yX2_faultOfRound 2 := ⟨mem_u 608 (by decide +kernel) (by decide +kernel), mem_u 283 (by decide +kernel) (by decide +kernel), mem_u 284 (by decide +kernel) (by decide +kernel), _, _, rfl⟩
theorem lv_X11_189 : LkV RX11 189 yX8_timesUntilBack 8 := ⟨mem_u 609 (by decide +kernel) (by decide +kernel), mem_u 610 (by decide +kernel) (by decide +kernel), mem_u 611 (by decide +kernel) (by decide +kernel), _, _, rfl⟩
theorem lv_X8_69 : LkV RX8 69 yX8_endOf 8 := ⟨mem_u 613 (by decide +kernel) (by decide +kernel), mem_u 614 (by decide +kernel) (by decide +kernel), mem_u 615 (by decide +kernel) (by decide +kernel), _, _, rfl⟩
theorem lv_X8_63 : LkV RX8 63 yX2_digitAt 2 := ⟨mem_u 617 (by decide +kernel) (by decide +kernel), mem_u 287 (by decide +kernel) (by decide +kernel), mem_u 288 (by decide +kernel) (by decide +kernel), _, _, rfl⟩
theorem lv_X8_66 : LkV RX8 66 yX8_after 8 := ⟨mem_u 618 (by decide +kernel) (by decide +kernel), mem_u 505 (by decide +kernel) (by decide +kernel), mem_u 506 (by decide +kernel) (by decide +kernel), _, _, rfl⟩
theorem lv_X8_73 : LkV RX8 73 yX8_areAllBackAfterOneMore 8 := ⟨mem_u 619 (by decide +kernel) (by decide +kernel), mem_u 621 (by decide +kernel) (by decide +kernel), mem_u 6 (by decide +kernel) (by decide +kernel), _, _, rfl⟩
theorem lv_X11_193 : LkV RX11 193 yX8_endOf 8 := ⟨mem_u 624 (by decide +kernel) (by decide +kernel), mem_u 614 (by decide +kernel) (by decide +kernel), mem_u 615 (by decide +kernel) (by decide +kernel), _, _, rfl⟩
theorem lv_L_77 : LkV R_law 77 yX11_hands 11 := ⟨mem_u 625 (by decide +kernel) (by decide +kernel), mem_u 626 (by decide +kernel) (by decide +kernel), mem_u 627 (by decide +kernel) (by decide +kernel), _, _, rfl⟩
theorem lv_X11_200 : LkV RX11 200 yX3_follow 3 := ⟨mem_u 629 (by decide +kernel) (by decide +kernel), mem_u 630 (by decide +kernel) (by decide +kernel), mem_u 631 (by decide +kernel) (by decide +kernel), _, _, rfl⟩
theorem lv_X3_40 : LkV RX3 40 yX3_lendToEach 3 := ⟨mem_u 636 (by decide +kernel) (by decide +kernel), mem_u 638 (by decide +kernel) (by decide +kernel), mem_u 7 (by decide +kernel) (by decide +kernel), _, _, rfl⟩
theorem lv_X3_53 : LkV RX3 53 yX8_after 8 := ⟨mem_u 640 (by decide +kernel) (by decide +kernel), mem_u 505 (by decide +kernel) (by decide +kernel), mem_u 506 (by decide +kernel) (by decide +kernel), _, _, rfl⟩
theorem lv_X3_44 : LkV RX3 44 yX3_stepOn 3 := ⟨mem_u 641 (by decide +kernel) (by decide +kernel), mem_u 643 (by decide +kernel) (by decide +kernel), mem_u 8 (by decide +kernel) (by decide +kernel), _, _, rfl⟩
theorem lv_X11_204 : LkV RX11 204 yX3_howManyTo 3 := ⟨mem_u 645 (by decide +kernel) (by decide +kernel), mem_u 646 (by decide +kernel) (by decide +kernel), mem_u 647 (by decide +kernel) (by decide +kernel), _, _, rfl⟩
theorem lv_X11_207 : LkV RX11 207 yX3_inEachTo 3 := ⟨mem_u 649 (by decide +kernel) (by decide +kernel), mem_u 650 (by decide +kernel) (by decide +kernel), mem_u 651 (by decide +kernel) (by decide +kernel), _, _, rfl⟩
theorem lv_L_82 : LkV R_law 82 yX11_years 11 := ⟨mem_u 653 (by decide +kernel) (by decide +kernel), mem_u 654 (by decide +kernel) (by decide +kernel), mem_u 655 (by decide +kernel) (by decide +kernel), _, _, rfl⟩
theorem lv_X11_210 : LkV RX11 210 yX7_dreamYears 7 := ⟨mem_u 657 (by decide +kernel) (by decide +kernel), mem_u 658 (by decide +kernel) (by decide +kernel), mem_u 659 (by decide +kernel) (by decide +kernel), _, _, rfl⟩
theorem lv_X7_71 : LkV RX7 71 yX7_drawOf 7 := ⟨mem_u 661 (by decide +kernel) (by decide +kernel), mem_u 663 (by decide +kernel) (by decide +kernel), mem_u 9 (by decide +kernel) (by decide +kernel), _, _, rfl⟩
theorem lv_X11_214 : LkV RX11 214 yX7_stateOfFirstThen 7 := ⟨mem_u 669 (by decide +kernel) (by decide +kernel), mem_u 670 (by decide +kernel) (by decide +kernel), mem_u 671 (by decide +kernel) (by decide +kernel), _, _, rfl⟩
theorem lv_X11_217 : LkV RX11 217 yX7_traitsTogetherThen 7 := ⟨mem_u 673 (by decide +kernel) (by decide +kernel), mem_u 674 (by decide +kernel) (by decide +kernel), mem_u 675 (by decide +kernel) (by decide +kernel), _, _, rfl⟩
theorem lv_X7_60 : LkV RX7 60 yX7_traitsOf 7 := ⟨mem_u 677 (by decide +kernel) (by decide +kernel), mem_u 679 (by decide +kernel) (by decide +kernel), mem_u 10 (by decide +kernel) (by decide +kernel), _, _, rfl⟩
theorem lv_L_86 : LkV R_law 86 yX11_image 11 := ⟨mem_u 684 (by decide +kernel) (by decide +kernel), mem_u 685 (by decide +kernel) (by decide +kernel), mem_u 686 (by decide +kernel) (by decide +kernel), _, _, rfl⟩
theorem lv_X11_223 : LkV RX11 223 yX7_copyFrom 7 := ⟨mem_u 688 (by decide +kernel) (by decide +kernel), mem_u 689 (by decide +kernel) (by decide +kernel), mem_u 690 (by decide +kernel) (by decide +kernel), _, _, rfl⟩
theorem lv_L_90 : LkV R_law 90 yX11_restore 11 := ⟨mem_u 692 (by decide +kernel) (by decide +kernel), mem_u 693 (by decide +kernel) (by decide +kernel), mem_u 694 (by decide +kernel) (by decide +kernel), _, _, rfl⟩
theorem lv_L_94 : LkV R_law 94 yX11_count 11 := ⟨mem_u 696 (by decide +kernel) (by decide +kernel), mem_u 697 (by decide +kernel) (by decide +kernel), mem_u 698 (by decide +kernel) (by decide +kernel), _, _, rfl⟩
theorem lv_X11_228 : LkV RX11 228 yX7_howManyLent 7 := ⟨mem_u 700 (by decide +kernel) (by decide +kernel), mem_u 701 (by decide +kernel) (by decide +kernel), mem_u 702 (by decide +kernel) (by decide +kernel), _, _, rfl⟩
theorem lv_X11_231 : LkV RX11 231 yX7_traitsTogether 7 := ⟨mem_u 704 (by decide +kernel) (by decide +kernel), mem_u 705 (by decide +kernel) (by decide +kernel), mem_u 706 (by decide +kernel) (by decide +kernel), _, _, rfl⟩
theorem lv_L_98 : LkV R_law 98 yX11_digest 11 := ⟨mem_u 708 (by decide +kernel) (by decide +kernel), mem_u 709 (by decide +kernel) (by decide +kernel), mem_u 710 (by decide +kernel) (by decide +kernel), _, _, rfl⟩
theorem lv_X11_238 : LkV RX11 238 yX11_about 11 := ⟨mem_u 714 (by decide +kernel) (by decide +kernel), mem_u 418 (by decide +kernel) (by decide +kernel), mem_u 419 (by decide +kernel) (by decide +kernel), _, _, rfl⟩
theorem lv_X11_241 : LkV RX11 241 yX11_mixedThing 11 := ⟨mem_u 715 (by decide +kernel) (by decide +kernel), mem_u 717 (by decide +kernel) (by decide +kernel), mem_u 11 (by decide +kernel) (by decide +kernel), _, _, rfl⟩
theorem lv_X11_251 : LkV RX11 251 yX11_thingOf 11 := ⟨mem_u 719 (by decide +kernel) (by decide +kernel), mem_u 476 (by decide +kernel) (by decide +kernel), mem_u 477 (by decide +kernel) (by decide +kernel), _, _, rfl⟩
theorem lv_X11_254 : LkV RX11 254 yX11_reach 11 := ⟨mem_u 720 (by decide +kernel) (by decide +kernel), mem_u 575 (by decide +kernel) (by decide +kernel), mem_u 576 (by decide +kernel) (by decide +kernel), _, _, rfl⟩
theorem lv_X11_257 : LkV RX11 257 yX11_wished 11 := ⟨mem_u 721 (by decide +kernel) (by decide +kernel), mem_u 536 (by decide +kernel) (by decide +kernel), mem_u 537 (by decide +kernel) (by decide +kernel), _, _, rfl⟩
theorem lv_X11_245 : LkV RX11 245 yX2_codeAt 2 := ⟨mem_u 722 (by decide +kernel) (by decide +kernel), mem_u 723 (by decide +kernel) (by decide +kernel), mem_u 724 (by decide +kernel) (by decide +kernel), _, _, rfl⟩
theorem lv_X11_248 : LkV RX11 248 yX11_count 11 := ⟨mem_u 726 (by decide +kernel) (by decide +kernel), mem_u 697 (by decide +kernel) (by decide +kernel), mem_u 698 (by decide +kernel) (by decide +kernel), _, _, rfl⟩
theorem li_L_12 : LkI R_law 12 yX12_init := ⟨.inl (mem_u 729 (by decide +kernel) (by decide +kernel)), mem_u 730 (by decide +kernel) (by decide +kernel), rfl⟩
theorem lo_X12_1 : Cond.methodLink RX12 1 objectInit ∈ lw_u := mem_u 732 (by decide +kernel) (by decide +kernel)
theorem lv_L_17 : LkV R_law 17 yX12_letter 12 := ⟨mem_u 846 (by decide +kernel) (by decide +kernel), mem_u 847 (by decide +kernel) (by decide +kernel), mem_u 848 (by decide +kernel) (by decide +kernel), _, _, rfl⟩
theorem ls_X12_77 : LkS RX12 77 yX12_within := ⟨.inl (mem_u 850 (by decide +kernel) (by decide +kernel)), mem_u 851 (by decide +kernel) (by decide +kernel)⟩
theorem lv_L_22 : LkV R_law 22 yX12_blank 12 := ⟨mem_u 853 (by decide +kernel) (by decide +kernel), mem_u 854 (by decide +kernel) (by decide +kernel), mem_u 855 (by decide +kernel) (by decide +kernel), _, _, rfl⟩
theorem lv_L_26 : LkV R_law 26 yX12_fault 12 := ⟨mem_u 857 (by decide +kernel) (by decide +kernel), mem_u 858 (by decide +kernel) (by decide +kernel), mem_u 859 (by decide +kernel) (by decide +kernel), _, _, rfl⟩
theorem lv_X12_106 : LkV RX12 106 yX12_readTown 12 := ⟨mem_u 861 (by decide +kernel) (by decide +kernel), mem_u 863 (by decide +kernel) (by decide +kernel), mem_u 12 (by decide +kernel) (by decide +kernel), _, _, rfl⟩
theorem lv_X12_89 : LkV RX12 89 yX12_isGood 12 := ⟨mem_u 865 (by decide +kernel) (by decide +kernel), mem_u 867 (by decide +kernel) (by decide +kernel), mem_u 13 (by decide +kernel) (by decide +kernel), _, _, rfl⟩
theorem ls_X12_85 : LkS RX12 85 yX12_kindBy := ⟨.inl (mem_u 869 (by decide +kernel) (by decide +kernel)), mem_u 870 (by decide +kernel) (by decide +kernel)⟩
theorem lv_X12_109 : LkV RX12 109 yX12_readRound 12 := ⟨mem_u 872 (by decide +kernel) (by decide +kernel), mem_u 874 (by decide +kernel) (by decide +kernel), mem_u 14 (by decide +kernel) (by decide +kernel), _, _, rfl⟩
theorem lv_L_30 : LkV R_law 30 yX12_town 12 := ⟨mem_u 876 (by decide +kernel) (by decide +kernel), mem_u 877 (by decide +kernel) (by decide +kernel), mem_u 878 (by decide +kernel) (by decide +kernel), _, _, rfl⟩
theorem lv_L_35 : LkV R_law 35 yX12_about 12 := ⟨mem_u 880 (by decide +kernel) (by decide +kernel), mem_u 881 (by decide +kernel) (by decide +kernel), mem_u 882 (by decide +kernel) (by decide +kernel), _, _, rfl⟩
theorem lv_X12_132 : LkV RX12 132 yX12_isBorrower 12 := ⟨mem_u 884 (by decide +kernel) (by decide +kernel), mem_u 886 (by decide +kernel) (by decide +kernel), mem_u 15 (by decide +kernel) (by decide +kernel), _, _, rfl⟩
theorem lv_X12_135 : LkV RX12 135 yX12_borrowerNow 12 := ⟨mem_u 888 (by decide +kernel) (by decide +kernel), mem_u 890 (by decide +kernel) (by decide +kernel), mem_u 16 (by decide +kernel) (by decide +kernel), _, _, rfl⟩
theorem lv_X12_129 : LkV RX12 129 yX12_whoseThing 12 := ⟨mem_u 892 (by decide +kernel) (by decide +kernel), mem_u 894 (by decide +kernel) (by decide +kernel), mem_u 17 (by decide +kernel) (by decide +kernel), _, _, rfl⟩
theorem lv_L_39 : LkV R_law 39 yX12_as 12 := ⟨mem_u 896 (by decide +kernel) (by decide +kernel), mem_u 897 (by decide +kernel) (by decide +kernel), mem_u 898 (by decide +kernel) (by decide +kernel), _, _, rfl⟩
theorem lv_L_43 : LkV R_law 43 yX12_thing 12 := ⟨mem_u 900 (by decide +kernel) (by decide +kernel), mem_u 901 (by decide +kernel) (by decide +kernel), mem_u 902 (by decide +kernel) (by decide +kernel), _, _, rfl⟩
theorem ls_X12_138 : LkS RX12 138 yX12_isState := ⟨.inl (mem_u 904 (by decide +kernel) (by decide +kernel)), mem_u 905 (by decide +kernel) (by decide +kernel)⟩
theorem lv_L_47 : LkV R_law 47 yX12_thingOf 12 := ⟨mem_u 907 (by decide +kernel) (by decide +kernel), mem_u 908 (by decide +kernel) (by decide +kernel), mem_u 909 (by decide +kernel) (by decide +kernel), _, _, rfl⟩
theorem lv_X12_147 : LkV RX12 147 yX12_isThing 12 := ⟨mem_u 911 (by decide +kernel) (by decide +kernel), mem_u 913 (by decide +kernel) (by decide +kernel), mem_u 18 (by decide +kernel) (by decide +kernel), _, _, rfl⟩
theorem lv_X12_150 : LkV RX12 150 yX12_thingNow 12 := ⟨mem_u 915 (by decide +kernel) (by decide +kernel), mem_u 917 (by decide +kernel) (by decide +kernel), mem_u 19 (by decide +kernel) (by decide +kernel), _, _, rfl⟩
theorem lv_X12_144 : LkV RX12 144 yX12_homeState 12 := ⟨mem_u 919 (by decide +kernel) (by decide +kernel), mem_u 921 (by decide +kernel) (by decide +kernel), mem_u 20 (by decide +kernel) (by decide +kernel), _, _, rfl⟩
theorem lv_X12_141 : LkV RX12 141 yX12_made 12 := ⟨mem_u 923 (by decide +kernel) (by decide +kernel), mem_u 925 (by decide +kernel) (by decide +kernel), mem_u 21 (by decide +kernel) (by decide +kernel), _, _, rfl⟩
theorem ls_X12_121 : LkS RX12 121 yX12_traitIn := ⟨.inl (mem_u 927 (by decide +kernel) (by decide +kernel)), mem_u 928 (by decide +kernel) (by decide +kernel)⟩
theorem ls_X12_125 : LkS RX12 125 yX12_with := ⟨.inl (mem_u 930 (by decide +kernel) (by decide +kernel)), mem_u 931 (by decide +kernel) (by decide +kernel)⟩
theorem lv_L_51 : LkV R_law 51 yX12_lend 12 := ⟨mem_u 933 (by decide +kernel) (by decide +kernel), mem_u 934 (by decide +kernel) (by decide +kernel), mem_u 935 (by decide +kernel) (by decide +kernel), _, _, rfl⟩
theorem lv_L_55 : LkV R_law 55 yX12_day 12 := ⟨mem_u 937 (by decide +kernel) (by decide +kernel), mem_u 938 (by decide +kernel) (by decide +kernel), mem_u 939 (by decide +kernel) (by decide +kernel), _, _, rfl⟩
theorem lv_L_59 : LkV R_law 59 yX12_by 12 := ⟨mem_u 941 (by decide +kernel) (by decide +kernel), mem_u 942 (by decide +kernel) (by decide +kernel), mem_u 943 (by decide +kernel) (by decide +kernel), _, _, rfl⟩
theorem lv_L_64 : LkV R_law 64 yX12_wished 12 := ⟨mem_u 945 (by decide +kernel) (by decide +kernel), mem_u 946 (by decide +kernel) (by decide +kernel), mem_u 947 (by decide +kernel) (by decide +kernel), _, _, rfl⟩
theorem lv_X12_162 : LkV RX12 162 yX12_wishedNow 12 := ⟨mem_u 949 (by decide +kernel) (by decide +kernel), mem_u 951 (by decide +kernel) (by decide +kernel), mem_u 22 (by decide +kernel) (by decide +kernel), _, _, rfl⟩
theorem lv_X12_158 : LkV RX12 158 yX12_layWaves 12 := ⟨mem_u 953 (by decide +kernel) (by decide +kernel), mem_u 955 (by decide +kernel) (by decide +kernel), mem_u 23 (by decide +kernel) (by decide +kernel), _, _, rfl⟩
theorem lv_X12_154 : LkV RX12 154 yX12_goFrom 12 := ⟨mem_u 958 (by decide +kernel) (by decide +kernel), mem_u 960 (by decide +kernel) (by decide +kernel), mem_u 24 (by decide +kernel) (by decide +kernel), _, _, rfl⟩
theorem lv_L_68 : LkV R_law 68 yX12_reach 12 := ⟨mem_u 962 (by decide +kernel) (by decide +kernel), mem_u 963 (by decide +kernel) (by decide +kernel), mem_u 964 (by decide +kernel) (by decide +kernel), _, _, rfl⟩
theorem lv_X12_165 : LkV RX12 165 yX12_reachNow 12 := ⟨mem_u 966 (by decide +kernel) (by decide +kernel), mem_u 968 (by decide +kernel) (by decide +kernel), mem_u 25 (by decide +kernel) (by decide +kernel), _, _, rfl⟩
theorem lv_L_72 : LkV R_law 72 yX12_spoilers 12 := ⟨mem_u 970 (by decide +kernel) (by decide +kernel), mem_u 971 (by decide +kernel) (by decide +kernel), mem_u 972 (by decide +kernel) (by decide +kernel), _, _, rfl⟩
theorem lv_X12_175 : LkV RX12 175 yX12_spoilersNow 12 := ⟨mem_u 974 (by decide +kernel) (by decide +kernel), mem_u 976 (by decide +kernel) (by decide +kernel), mem_u 26 (by decide +kernel) (by decide +kernel), _, _, rfl⟩
theorem ls_X12_168 : LkS RX12 168 yX12_size := ⟨.inl (mem_u 978 (by decide +kernel) (by decide +kernel)), mem_u 979 (by decide +kernel) (by decide +kernel)⟩
theorem lv_X12_171 : LkV RX12 171 yX12_isSafe 12 := ⟨mem_u 981 (by decide +kernel) (by decide +kernel), mem_u 983 (by decide +kernel) (by decide +kernel), mem_u 27 (by decide +kernel) (by decide +kernel), _, _, rfl⟩
theorem lv_L_76 : LkV R_law 76 yX12_round 12 := ⟨mem_u 985 (by decide +kernel) (by decide +kernel), mem_u 986 (by decide +kernel) (by decide +kernel), mem_u 987 (by decide +kernel) (by decide +kernel), _, _, rfl⟩
theorem lv_X12_181 : LkV RX12 181 yX12_backNow 12 := ⟨mem_u 989 (by decide +kernel) (by decide +kernel), mem_u 991 (by decide +kernel) (by decide +kernel), mem_u 28 (by decide +kernel) (by decide +kernel), _, _, rfl⟩
theorem lv_X12_178 : LkV RX12 178 yX12_endsOf 12 := ⟨mem_u 993 (by decide +kernel) (by decide +kernel), mem_u 995 (by decide +kernel) (by decide +kernel), mem_u 29 (by decide +kernel) (by decide +kernel), _, _, rfl⟩
theorem lv_L_81 : LkV R_law 81 yX12_hands 12 := ⟨mem_u 997 (by decide +kernel) (by decide +kernel), mem_u 998 (by decide +kernel) (by decide +kernel), mem_u 999 (by decide +kernel) (by decide +kernel), _, _, rfl⟩
theorem lv_X12_192 : LkV RX12 192 yX12_handsNow 12 := ⟨mem_u 1001 (by decide +kernel) (by decide +kernel), mem_u 1003 (by decide +kernel) (by decide +kernel), mem_u 30 (by decide +kernel) (by decide +kernel), _, _, rfl⟩
theorem lv_X12_185 : LkV RX12 185 yX12_rowsWithout 12 := ⟨mem_u 1005 (by decide +kernel) (by decide +kernel), mem_u 1007 (by decide +kernel) (by decide +kernel), mem_u 31 (by decide +kernel) (by decide +kernel), _, _, rfl⟩
theorem lv_L_85 : LkV R_law 85 yX12_years 12 := ⟨mem_u 1009 (by decide +kernel) (by decide +kernel), mem_u 1010 (by decide +kernel) (by decide +kernel), mem_u 1011 (by decide +kernel) (by decide +kernel), _, _, rfl⟩
theorem lv_X12_213 : LkV RX12 213 yX12_yearsNow 12 := ⟨mem_u 1013 (by decide +kernel) (by decide +kernel), mem_u 1015 (by decide +kernel) (by decide +kernel), mem_u 32 (by decide +kernel) (by decide +kernel), _, _, rfl⟩
theorem lv_X12_207 : LkV RX12 207 yX12_draw 12 := ⟨mem_u 1017 (by decide +kernel) (by decide +kernel), mem_u 1019 (by decide +kernel) (by decide +kernel), mem_u 33 (by decide +kernel) (by decide +kernel), _, _, rfl⟩
theorem ls_X12_210 : LkS RX12 210 yX12_traitsIn := ⟨.inl (mem_u 1025 (by decide +kernel) (by decide +kernel)), mem_u 1026 (by decide +kernel) (by decide +kernel)⟩
theorem lv_L_89 : LkV R_law 89 yX12_image 12 := ⟨mem_u 1028 (by decide +kernel) (by decide +kernel), mem_u 1029 (by decide +kernel) (by decide +kernel), mem_u 1030 (by decide +kernel) (by decide +kernel), _, _, rfl⟩
theorem lv_L_93 : LkV R_law 93 yX12_restore 12 := ⟨mem_u 1032 (by decide +kernel) (by decide +kernel), mem_u 1033 (by decide +kernel) (by decide +kernel), mem_u 1034 (by decide +kernel) (by decide +kernel), _, _, rfl⟩
theorem lv_L_97 : LkV R_law 97 yX12_count 12 := ⟨mem_u 1036 (by decide +kernel) (by decide +kernel), mem_u 1037 (by decide +kernel) (by decide +kernel), mem_u 1038 (by decide +kernel) (by decide +kernel), _, _, rfl⟩
theorem lv_X12_234 : LkV RX12 234 yX12_howMany 12 := ⟨mem_u 1040 (by decide +kernel) (by decide +kernel), mem_u 1042 (by decide +kernel) (by decide +kernel), mem_u 34 (by decide +kernel) (by decide +kernel), _, _, rfl⟩
theorem lv_X12_228 : LkV RX12 228 yX12_lentMany 12 := ⟨mem_u 1044 (by decide +kernel) (by decide +kernel), mem_u 1046 (by decide +kernel) (by decide +kernel), mem_u 35 (by decide +kernel) (by decide +kernel), _, _, rfl⟩
theorem lv_X12_231 : LkV RX12 231 yX12_traitsAll 12 := ⟨mem_u 1048 (by decide +kernel) (by decide +kernel), mem_u 1050 (by decide +kernel) (by decide +kernel), mem_u 36 (by decide +kernel) (by decide +kernel), _, _, rfl⟩
theorem lv_L_102 : LkV R_law 102 yX12_digest 12 := ⟨mem_u 1052 (by decide +kernel) (by decide +kernel), mem_u 1053 (by decide +kernel) (by decide +kernel), mem_u 1054 (by decide +kernel) (by decide +kernel), _, _, rfl⟩
theorem lv_X12_242 : LkV RX12 242 yX12_mix 12 := ⟨mem_u 1057 (by decide +kernel) (by decide +kernel), mem_u 1059 (by decide +kernel) (by decide +kernel), mem_u 37 (by decide +kernel) (by decide +kernel), _, _, rfl⟩
theorem lv_X12_248 : LkV RX12 248 yX12_mixThing 12 := ⟨mem_u 1062 (by decide +kernel) (by decide +kernel), mem_u 1064 (by decide +kernel) (by decide +kernel), mem_u 38 (by decide +kernel) (by decide +kernel), _, _, rfl⟩
theorem li_X11_9 : LkI RX11 9 yX2_init := ⟨.inr ⟨"LentChanged", mem_u 65 (by decide +kernel) (by decide +kernel)⟩, mem_u 66 (by decide +kernel) (by decide +kernel), rfl⟩
theorem li_X11_18 : LkI RX11 18 yX8_init := ⟨.inr ⟨"LentChanged", mem_u 81 (by decide +kernel) (by decide +kernel)⟩, mem_u 82 (by decide +kernel) (by decide +kernel), rfl⟩
theorem li_X11_25 : LkI RX11 25 yX7_init := ⟨.inr ⟨"LentChanged", mem_u 110 (by decide +kernel) (by decide +kernel)⟩, mem_u 111 (by decide +kernel) (by decide +kernel), rfl⟩
theorem ls_X2_19 : LkS RX2 19 yX11_put := ⟨.inr ⟨"LentChanged", mem_u 260 (by decide +kernel) (by decide +kernel)⟩, mem_u 261 (by decide +kernel) (by decide +kernel)⟩
theorem ls_X2_23 : LkS RX2 23 yX11_at := ⟨.inr ⟨"LentChanged", mem_u 279 (by decide +kernel) (by decide +kernel)⟩, mem_u 280 (by decide +kernel) (by decide +kernel)⟩
theorem ls_X6_15 : LkS RX6 15 yX11_traitOf := ⟨.inr ⟨"LentChanged", mem_u 387 (by decide +kernel) (by decide +kernel)⟩, mem_u 388 (by decide +kernel) (by decide +kernel)⟩
theorem ls_X0_21 : LkS RX0 21 yX11_traitOf := ⟨.inr ⟨"LentChanged", mem_u 392 (by decide +kernel) (by decide +kernel)⟩, mem_u 388 (by decide +kernel) (by decide +kernel)⟩
theorem ls_X8_50 : LkS RX8 50 yX11_put := ⟨.inr ⟨"LentChanged", mem_u 408 (by decide +kernel) (by decide +kernel)⟩, mem_u 261 (by decide +kernel) (by decide +kernel)⟩
theorem ls_X7_34 : LkS RX7 34 yX11_at := ⟨.inr ⟨"LentChanged", mem_u 446 (by decide +kernel) (by decide +kernel)⟩, mem_u 280 (by decide +kernel) (by decide +kernel)⟩
theorem ls_X7_38 : LkS RX7 38 yX11_put := ⟨.inr ⟨"LentChanged", mem_u 474 (by decide +kernel) (by decide +kernel)⟩, mem_u 261 (by decide +kernel) (by decide +kernel)⟩
theorem ls_X10_57 : LkS RX10 57 yX11_fill := ⟨.inr ⟨"LentChanged", mem_u 547 (by decide +kernel) (by decide +kernel)⟩, mem_u 548 (by decide +kernel) (by decide +kernel)⟩
theorem ls_X10_53 : LkS RX10 53 yX11_put := ⟨.inr ⟨"LentChanged", mem_u 550 (by decide +kernel) (by decide +kernel)⟩, mem_u 261 (by decide +kernel) (by decide +kernel)⟩
theorem ls_X10_39 : LkS RX10 39 yX11_at := ⟨.inr ⟨"LentChanged", mem_u 560 (by decide +kernel) (by decide +kernel)⟩, mem_u 280 (by decide +kernel) (by decide +kernel)⟩
theorem ls_X5_22 : LkS RX5 22 yX11_traitOf := ⟨.inr ⟨"LentChanged", mem_u 586 (by decide +kernel) (by decide +kernel)⟩, mem_u 388 (by decide +kernel) (by decide +kernel)⟩
theorem ls_X5_45 : LkS RX5 45 yX11_put := ⟨.inr ⟨"LentChanged", mem_u 597 (by decide +kernel) (by decide +kernel)⟩, mem_u 261 (by decide +kernel) (by decide +kernel)⟩
theorem ls_X5_49 : LkS RX5 49 yX11_at := ⟨.inr ⟨"LentChanged", mem_u 598 (by decide +kernel) (by decide +kernel)⟩, mem_u 280 (by decide +kernel) (by decide +kernel)⟩
theorem ls_X8_77 : LkS RX8 77 yX11_at := ⟨.inr ⟨"LentChanged", mem_u 623 (by decide +kernel) (by decide +kernel)⟩, mem_u 280 (by decide +kernel) (by decide +kernel)⟩
theorem ls_X3_32 : LkS RX3 32 yX11_fill := ⟨.inr ⟨"LentChanged", mem_u 633 (by decide +kernel) (by decide +kernel)⟩, mem_u 548 (by decide +kernel) (by decide +kernel)⟩
theorem ls_X3_36 : LkS RX3 36 yX11_put := ⟨.inr ⟨"LentChanged", mem_u 634 (by decide +kernel) (by decide +kernel)⟩, mem_u 261 (by decide +kernel) (by decide +kernel)⟩
theorem ls_X3_28 : LkS RX3 28 yX11_at := ⟨.inr ⟨"LentChanged", mem_u 635 (by decide +kernel) (by decide +kernel)⟩, mem_u 280 (by decide +kernel) (by decide +kernel)⟩
theorem ls_X7_75 : LkS RX7 75 yX11_traitSum := ⟨.inr ⟨"LentChanged", mem_u 681 (by decide +kernel) (by decide +kernel)⟩, mem_u 682 (by decide +kernel) (by decide +kernel)⟩
theorem cl_L_7 : Cond.classLink R_law 7 RX11 ∈ lw_u := mem_u 55 (by decide +kernel) (by decide +kernel)
theorem nw_L_7 : LkN R_law 7 11 11 := ⟨RX11, TX11, tyX11, rfl, inX11, tyX11_ok, cl_L_7, mem_u 56 (by decide +kernel) (by decide +kernel), mem_u 40 (by decide +kernel) (by decide +kernel)⟩
theorem cl_X11_7 : Cond.classLink RX11 7 RX2 ∈ lw_u := mem_u 63 (by decide +kernel) (by decide +kernel)
theorem nw_X11_7 : LkN RX11 7 2 2 := ⟨RX2, TX2, tyX2, rfl, inX2, tyX2_ok, cl_X11_7, mem_u 64 (by decide +kernel) (by decide +kernel), mem_u 41 (by decide +kernel) (by decide +kernel)⟩
theorem cl_X11_16 : Cond.classLink RX11 16 RX8 ∈ lw_u := mem_u 79 (by decide +kernel) (by decide +kernel)
theorem nw_X11_16 : LkN RX11 16 8 5 := ⟨RX8, TX8, tyX8, rfl, inX8, tyX8_ok, cl_X11_16, mem_u 80 (by decide +kernel) (by decide +kernel), mem_u 42 (by decide +kernel) (by decide +kernel)⟩
theorem cl_X8_9 : Cond.classLink RX8 9 RX0 ∈ lw_u := mem_u 85 (by decide +kernel) (by decide +kernel)
theorem nw_X8_9 : LkN RX8 9 0 3 := ⟨RX0, TX0, tyX0, rfl, inX0, tyX0_ok, cl_X8_9, mem_u 372 (by decide +kernel) (by decide +kernel), mem_u 49 (by decide +kernel) (by decide +kernel)⟩
theorem cl_X11_23 : Cond.classLink RX11 23 RX7 ∈ lw_u := mem_u 108 (by decide +kernel) (by decide +kernel)
theorem nw_X11_23 : LkN RX11 23 7 8 := ⟨RX7, TX7, tyX7, rfl, inX7, tyX7_ok, cl_X11_23, mem_u 109 (by decide +kernel) (by decide +kernel), mem_u 43 (by decide +kernel) (by decide +kernel)⟩
theorem cl_X11_33 : Cond.classLink RX11 33 RX10 ∈ lw_u := mem_u 142 (by decide +kernel) (by decide +kernel)
theorem nw_X11_33 : LkN RX11 33 10 9 := ⟨RX10, TX10, tyX10, rfl, inX10, tyX10_ok, cl_X11_33, mem_u 143 (by decide +kernel) (by decide +kernel), mem_u 44 (by decide +kernel) (by decide +kernel)⟩
theorem cl_X11_45 : Cond.classLink RX11 45 RX5 ∈ lw_u := mem_u 177 (by decide +kernel) (by decide +kernel)
theorem nw_X11_45 : LkN RX11 45 5 4 := ⟨RX5, TX5, tyX5, rfl, inX5, tyX5_ok, cl_X11_45, mem_u 178 (by decide +kernel) (by decide +kernel), mem_u 45 (by decide +kernel) (by decide +kernel)⟩
theorem cl_X11_54 : Cond.classLink RX11 54 RX3 ∈ lw_u := mem_u 196 (by decide +kernel) (by decide +kernel)
theorem nw_X11_54 : LkN RX11 54 3 5 := ⟨RX3, TX3, tyX3, rfl, inX3, tyX3_ok, cl_X11_54, mem_u 197 (by decide +kernel) (by decide +kernel), mem_u 46 (by decide +kernel) (by decide +kernel)⟩
theorem cl_X2_42 : Cond.classLink RX2 42 RX4 ∈ lw_u := mem_u 314 (by decide +kernel) (by decide +kernel)
theorem nw_X2_42 : LkN RX2 42 4 3 := ⟨RX4, TX4, tyX4, rfl, inX4, tyX4_ok, cl_X2_42, mem_u 315 (by decide +kernel) (by decide +kernel), mem_u 50 (by decide +kernel) (by decide +kernel)⟩
theorem cl_X2_47 : Cond.classLink RX2 47 RX9 ∈ lw_u := mem_u 341 (by decide +kernel) (by decide +kernel)
theorem nw_X2_47 : LkN RX2 47 9 3 := ⟨RX9, TX9, tyX9, rfl, inX9, tyX9_ok, cl_X2_47, mem_u 342 (by decide +kernel) (by decide +kernel), mem_u 51 (by decide +kernel) (by decide +kernel)⟩
theorem cl_X2_50 : Cond.classLink RX2 50 RX6 ∈ lw_u := mem_u 351 (by decide +kernel) (by decide +kernel)
theorem nw_X2_50 : LkN RX2 50 6 3 := ⟨RX6, TX6, tyX6, rfl, inX6, tyX6_ok, cl_X2_50, mem_u 352 (by decide +kernel) (by decide +kernel), mem_u 52 (by decide +kernel) (by decide +kernel)⟩
theorem cl_X2_53 : Cond.classLink RX2 53 RX1 ∈ lw_u := mem_u 361 (by decide +kernel) (by decide +kernel)
theorem nw_X2_53 : LkN RX2 53 1 3 := ⟨RX1, TX1, tyX1, rfl, inX1, tyX1_ok, cl_X2_53, mem_u 362 (by decide +kernel) (by decide +kernel), mem_u 53 (by decide +kernel) (by decide +kernel)⟩
theorem cl_X2_56 : Cond.classLink RX2 56 RX0 ∈ lw_u := mem_u 371 (by decide +kernel) (by decide +kernel)
theorem nw_X2_56 : LkN RX2 56 0 3 := ⟨RX0, TX0, tyX0, rfl, inX0, tyX0_ok, cl_X2_56, mem_u 372 (by decide +kernel) (by decide +kernel), mem_u 49 (by decide +kernel) (by decide +kernel)⟩
theorem cl_X11_260 : Cond.classLink RX11 260 RX4 ∈ lw_u := mem_u 459 (by decide +kernel) (by decide +kernel)
theorem nw_X11_260 : LkN RX11 260 4 3 := ⟨RX4, TX4, tyX4, rfl, inX4, tyX4_ok, cl_X11_260, mem_u 315 (by decide +kernel) (by decide +kernel), mem_u 50 (by decide +kernel) (by decide +kernel)⟩
theorem cl_X11_262 : Cond.classLink RX11 262 RX9 ∈ lw_u := mem_u 460 (by decide +kernel) (by decide +kernel)
theorem nw_X11_262 : LkN RX11 262 9 3 := ⟨RX9, TX9, tyX9, rfl, inX9, tyX9_ok, cl_X11_262, mem_u 342 (by decide +kernel) (by decide +kernel), mem_u 51 (by decide +kernel) (by decide +kernel)⟩
theorem cl_X11_264 : Cond.classLink RX11 264 RX6 ∈ lw_u := mem_u 461 (by decide +kernel) (by decide +kernel)
theorem nw_X11_264 : LkN RX11 264 6 3 := ⟨RX6, TX6, tyX6, rfl, inX6, tyX6_ok, cl_X11_264, mem_u 352 (by decide +kernel) (by decide +kernel), mem_u 52 (by decide +kernel) (by decide +kernel)⟩
theorem cl_X11_266 : Cond.classLink RX11 266 RX1 ∈ lw_u := mem_u 462 (by decide +kernel) (by decide +kernel)
theorem nw_X11_266 : LkN RX11 266 1 3 := ⟨RX1, TX1, tyX1, rfl, inX1, tyX1_ok, cl_X11_266, mem_u 362 (by decide +kernel) (by decide +kernel), mem_u 53 (by decide +kernel) (by decide +kernel)⟩
theorem cl_L_10 : Cond.classLink R_law 10 RX12 ∈ lw_u := mem_u 727 (by decide +kernel) (by decide +kernel)
theorem nw_L_10 : LkN R_law 10 12 37 := ⟨RX12, TX12, tyX12, rfl, inX12, tyX12_ok, cl_L_10, mem_u 728 (by decide +kernel) (by decide +kernel), mem_u 47 (by decide +kernel) (by decide +kernel)⟩
theorem k_J6_265 : Cond.constant RJ6 265 (1431655765 : Int32) ∈ lw_u := mem_u 590 (by decide +kernel) (by decide +kernel)
theorem k_J6_266 : Cond.constant RJ6 266 (858993459 : Int32) ∈ lw_u := mem_u 591 (by decide +kernel) (by decide +kernel)
theorem k_J6_267 : Cond.constant RJ6 267 (252645135 : Int32) ∈ lw_u := mem_u 592 (by decide +kernel) (by decide +kernel)
theorem k_X7_84 : Cond.constant RX7 84 (65536 : Int32) ∈ lw_u := mem_u 668 (by decide +kernel) (by decide +kernel)
theorem k_X12_153 : Cond.constant RX12 153 (1048576 : Int32) ∈ lw_u := mem_u 957 (by decide +kernel) (by decide +kernel)
theorem k_X7_78 : Cond.constantLong RX7 78 (1103515245 : Int64) ∈ lw_u := mem_u 665 (by decide +kernel) (by decide +kernel)
theorem k_X7_80 : Cond.constantLong RX7 80 (12345 : Int64) ∈ lw_u := mem_u 666 (by decide +kernel) (by decide +kernel)
theorem k_X7_82 : Cond.constantLong RX7 82 (2147483647 : Int64) ∈ lw_u := mem_u 667 (by decide +kernel) (by decide +kernel)
theorem k_X11_234 : Cond.constantLong RX11 234 (797 : Int64) ∈ lw_u := mem_u 712 (by decide +kernel) (by decide +kernel)
theorem k_X11_236 : Cond.constantLong RX11 236 (31 : Int64) ∈ lw_u := mem_u 713 (by decide +kernel) (by decide +kernel)
theorem k_X12_195 : Cond.constantLong RX12 195 (1103515245 : Int64) ∈ lw_u := mem_u 1021 (by decide +kernel) (by decide +kernel)
theorem k_X12_201 : Cond.constantLong RX12 201 (12345 : Int64) ∈ lw_u := mem_u 1022 (by decide +kernel) (by decide +kernel)
theorem k_X12_203 : Cond.constantLong RX12 203 (2147483647 : Int64) ∈ lw_u := mem_u 1023 (by decide +kernel) (by decide +kernel)
theorem k_X12_205 : Cond.constantLong RX12 205 (65536 : Int64) ∈ lw_u := mem_u 1024 (by decide +kernel) (by decide +kernel)
theorem k_X12_246 : Cond.constantLong RX12 246 (797 : Int64) ∈ lw_u := mem_u 1056 (by decide +kernel) (by decide +kernel)
theorem k_X12_237 : Cond.constantLong RX12 237 (31 : Int64) ∈ lw_u := mem_u 1061 (by decide +kernel) (by decide +kernel)
theorem ca_X1_X4 : Cond.castable RX1 RX4 ∈ lw_u := mem_u 1066 (by decide +kernel) (by decide +kernel)
theorem ca_X4_X0 : Cond.castable RX4 RX0 ∈ lw_u := mem_u 1067 (by decide +kernel) (by decide +kernel)
theorem ca_X9_X0 : Cond.castable RX9 RX0 ∈ lw_u := mem_u 1068 (by decide +kernel) (by decide +kernel)
theorem ca_X6_X0 : Cond.castable RX6 RX0 ∈ lw_u := mem_u 1069 (by decide +kernel) (by decide +kernel)
theorem ca_X1_X0 : Cond.castable RX1 RX0 ∈ lw_u := mem_u 1070 (by decide +kernel) (by decide +kernel)
theorem ac_int : Cond.arrayClass .int ∈ lw_u := mem_u 78 (by decide +kernel) (by decide +kernel)
theorem ac_byte : Cond.arrayClass .byte ∈ lw_u := mem_u 845 (by decide +kernel) (by decide +kernel)
theorem ao_Adder : Cond.arrayOver (.object RX0) ∈ lw_u := mem_u 86 (by decide +kernel) (by decide +kernel)
theorem oi_inst : Cond.instanceMethod objectInit ∈ lw_u := mem_u 61 (by decide +kernel) (by decide +kernel)
theorem oi_code : Cond.code objectInit ⟨#[0xb1]⟩ 1 none ∈ lw_u := mem_u 62 (by decide +kernel) (by decide +kernel)
end
section
theorem dX0_init_0 : decode cX0_init 0 = .ok (.aload_n 0, 1) := by decide +kernel
theorem dX0_init_1 : decode cX0_init 1 = .ok (.invokespecial 3, 3) := by decide +kernel
theorem dX0_init_4 : decode cX0_init 4 = .ok (.aload_n 0, 1) := by decide +kernel
theorem dX0_init_5 : decode cX0_init 5 = .ok (.iload_n 1, 1) := by decide +kernel
theorem dX0_init_6 : decode cX0_init 6 = .ok (.putfield 9, 3) := by decide +kernel
theorem dX0_init_9 : decode cX0_init 9 = .ok (.aload_n 0, 1) := by decide +kernel
theorem dX0_init_10 : decode cX0_init 10 = .ok (.iload_n 2, 1) := by decide +kernel
theorem dX0_init_11 : decode cX0_init 11 = .ok (.putfield 15, 3) := by decide +kernel
theorem dX0_init_14 : decode cX0_init 14 = .ok (.aload_n 0, 1) := by decide +kernel
theorem dX0_init_15 : decode cX0_init 15 = .ok (.iload_n 3, 1) := by decide +kernel
theorem dX0_init_16 : decode cX0_init 16 = .ok (.putfield 18, 3) := by decide +kernel
theorem dX0_init_19 : decode cX0_init 19 = .ok (.return_, 1) := by decide +kernel
theorem dX0_kind_0 : decode cX0_kind 0 = .ok (.iconst 0, 1) := by decide +kernel
theorem dX0_kind_1 : decode cX0_kind 1 = .ok (.ireturn, 1) := by decide +kernel
theorem dX0_changed_0 : decode cX0_changed 0 = .ok (.iload_n 1, 1) := by decide +kernel
theorem dX0_changed_1 : decode cX0_changed 1 = .ok (.aload_n 0, 1) := by decide +kernel
theorem dX0_changed_2 : decode cX0_changed 2 = .ok (.getfield 15, 3) := by decide +kernel
theorem dX0_changed_5 : decode cX0_changed 5 = .ok (.iadd, 1) := by decide +kernel
theorem dX0_changed_6 : decode cX0_changed 6 = .ok (.bipush 7, 2) := by decide +kernel
theorem dX0_changed_8 : decode cX0_changed 8 = .ok (.iand, 1) := by decide +kernel
theorem dX0_changed_9 : decode cX0_changed 9 = .ok (.ireturn, 1) := by decide +kernel
theorem dX0_stateAfter_0 : decode cX0_stateAfter 0 = .ok (.iload_n 1, 1) := by decide +kernel
theorem dX0_stateAfter_1 : decode cX0_stateAfter 1 = .ok (.aload_n 0, 1) := by decide +kernel
theorem dX0_stateAfter_2 : decode cX0_stateAfter 2 = .ok (.getfield 9, 3) := by decide +kernel
theorem dX0_stateAfter_5 : decode cX0_stateAfter 5 = .ok (.invokestatic 21, 3) := by decide +kernel
theorem dX0_stateAfter_8 : decode cX0_stateAfter 8 = .ok (.istore_n 2, 1) := by decide +kernel
theorem dX0_stateAfter_9 : decode cX0_stateAfter 9 = .ok (.iload_n 1, 1) := by decide +kernel
theorem dX0_stateAfter_10 : decode cX0_stateAfter 10 = .ok (.aload_n 0, 1) := by decide +kernel
theorem dX0_stateAfter_11 : decode cX0_stateAfter 11 = .ok (.iload_n 2, 1) := by decide +kernel
theorem dX0_stateAfter_12 : decode cX0_stateAfter 12 = .ok (.invokevirtual 25, 3) := by decide +kernel
theorem dX0_stateAfter_15 : decode cX0_stateAfter 15 = .ok (.iload_n 2, 1) := by decide +kernel
theorem dX0_stateAfter_16 : decode cX0_stateAfter 16 = .ok (.isub, 1) := by decide +kernel
theorem dX0_stateAfter_17 : decode cX0_stateAfter 17 = .ok (.iconst 3, 1) := by decide +kernel
theorem dX0_stateAfter_18 : decode cX0_stateAfter 18 = .ok (.aload_n 0, 1) := by decide +kernel
theorem dX0_stateAfter_19 : decode cX0_stateAfter 19 = .ok (.getfield 9, 3) := by decide +kernel
theorem dX0_stateAfter_22 : decode cX0_stateAfter 22 = .ok (.imul, 1) := by decide +kernel
theorem dX0_stateAfter_23 : decode cX0_stateAfter 23 = .ok (.ishl, 1) := by decide +kernel
theorem dX0_stateAfter_24 : decode cX0_stateAfter 24 = .ok (.iadd, 1) := by decide +kernel
theorem dX0_stateAfter_25 : decode cX0_stateAfter 25 = .ok (.ireturn, 1) := by decide +kernel
theorem dX1_init_0 : decode cX1_init 0 = .ok (.aload_n 0, 1) := by decide +kernel
theorem dX1_init_1 : decode cX1_init 1 = .ok (.iload_n 1, 1) := by decide +kernel
theorem dX1_init_2 : decode cX1_init 2 = .ok (.iload_n 2, 1) := by decide +kernel
theorem dX1_init_3 : decode cX1_init 3 = .ok (.iload_n 3, 1) := by decide +kernel
theorem dX1_init_4 : decode cX1_init 4 = .ok (.invokespecial 3, 3) := by decide +kernel
theorem dX1_init_7 : decode cX1_init 7 = .ok (.return_, 1) := by decide +kernel
theorem dX1_kind_0 : decode cX1_kind 0 = .ok (.iconst 4, 1) := by decide +kernel
theorem dX1_kind_1 : decode cX1_kind 1 = .ok (.ireturn, 1) := by decide +kernel
theorem dX1_changed_0 : decode cX1_changed 0 = .ok (.iconst 2, 1) := by decide +kernel
theorem dX1_changed_1 : decode cX1_changed 1 = .ok (.iload_n 1, 1) := by decide +kernel
theorem dX1_changed_2 : decode cX1_changed 2 = .ok (.imul, 1) := by decide +kernel
theorem dX1_changed_3 : decode cX1_changed 3 = .ok (.bipush 7, 2) := by decide +kernel
theorem dX1_changed_5 : decode cX1_changed 5 = .ok (.iand, 1) := by decide +kernel
theorem dX1_changed_6 : decode cX1_changed 6 = .ok (.ireturn, 1) := by decide +kernel
theorem dX2_init_0 : decode cX2_init 0 = .ok (.aload_n 0, 1) := by decide +kernel
theorem dX2_init_1 : decode cX2_init 1 = .ok (.invokespecial 3, 3) := by decide +kernel
theorem dX2_init_4 : decode cX2_init 4 = .ok (.aload_n 0, 1) := by decide +kernel
theorem dX2_init_5 : decode cX2_init 5 = .ok (.bipush 30, 2) := by decide +kernel
theorem dX2_init_7 : decode cX2_init 7 = .ok (.newarray .int, 2) := by decide +kernel
theorem dX2_init_9 : decode cX2_init 9 = .ok (.putfield 9, 3) := by decide +kernel
theorem dX2_init_12 : decode cX2_init 12 = .ok (.return_, 1) := by decide +kernel
theorem dX2_add_0 : decode cX2_add 0 = .ok (.aload_n 0, 1) := by decide +kernel
theorem dX2_add_1 : decode cX2_add 1 = .ok (.getfield 9, 3) := by decide +kernel
theorem dX2_add_4 : decode cX2_add 4 = .ok (.aload_n 0, 1) := by decide +kernel
theorem dX2_add_5 : decode cX2_add 5 = .ok (.getfield 15, 3) := by decide +kernel
theorem dX2_add_8 : decode cX2_add 8 = .ok (.iload_n 1, 1) := by decide +kernel
theorem dX2_add_9 : decode cX2_add 9 = .ok (.invokestatic 19, 3) := by decide +kernel
theorem dX2_add_12 : decode cX2_add 12 = .ok (.aload_n 0, 1) := by decide +kernel
theorem dX2_add_13 : decode cX2_add 13 = .ok (.dup, 1) := by decide +kernel
theorem dX2_add_14 : decode cX2_add 14 = .ok (.getfield 15, 3) := by decide +kernel
theorem dX2_add_17 : decode cX2_add 17 = .ok (.iconst 1, 1) := by decide +kernel
theorem dX2_add_18 : decode cX2_add 18 = .ok (.iadd, 1) := by decide +kernel
theorem dX2_add_19 : decode cX2_add 19 = .ok (.putfield 15, 3) := by decide +kernel
theorem dX2_add_22 : decode cX2_add 22 = .ok (.return_, 1) := by decide +kernel
theorem dX2_codeAt_0 : decode cX2_codeAt 0 = .ok (.aload_n 0, 1) := by decide +kernel
theorem dX2_codeAt_1 : decode cX2_codeAt 1 = .ok (.getfield 9, 3) := by decide +kernel
theorem dX2_codeAt_4 : decode cX2_codeAt 4 = .ok (.iload_n 1, 1) := by decide +kernel
theorem dX2_codeAt_5 : decode cX2_codeAt 5 = .ok (.invokestatic 23, 3) := by decide +kernel
theorem dX2_codeAt_8 : decode cX2_codeAt 8 = .ok (.ireturn, 1) := by decide +kernel
theorem dX2_digitAt_0 : decode cX2_digitAt 0 = .ok (.aload_n 0, 1) := by decide +kernel
theorem dX2_digitAt_1 : decode cX2_digitAt 1 = .ok (.getfield 9, 3) := by decide +kernel
theorem dX2_digitAt_4 : decode cX2_digitAt 4 = .ok (.iload_n 1, 1) := by decide +kernel
theorem dX2_digitAt_5 : decode cX2_digitAt 5 = .ok (.invokestatic 23, 3) := by decide +kernel
theorem dX2_digitAt_8 : decode cX2_digitAt 8 = .ok (.bipush 48, 2) := by decide +kernel
theorem dX2_digitAt_10 : decode cX2_digitAt 10 = .ok (.isub, 1) := by decide +kernel
theorem dX2_digitAt_11 : decode cX2_digitAt 11 = .ok (.ireturn, 1) := by decide +kernel
theorem dX2_faultOfTown_0 : decode cX2_faultOfTown 0 = .ok (.iconst 0, 1) := by decide +kernel
theorem dX2_faultOfTown_1 : decode cX2_faultOfTown 1 = .ok (.istore_n 1, 1) := by decide +kernel
theorem dX2_faultOfTown_2 : decode cX2_faultOfTown 2 = .ok (.iload_n 1, 1) := by decide +kernel
theorem dX2_faultOfTown_3 : decode cX2_faultOfTown 3 = .ok (.aload_n 0, 1) := by decide +kernel
theorem dX2_faultOfTown_4 : decode cX2_faultOfTown 4 = .ok (.getfield 15, 3) := by decide +kernel
theorem dX2_faultOfTown_7 : decode cX2_faultOfTown 7 = .ok (.if_icmp .ge 19, 3) := by decide +kernel
theorem dX2_faultOfTown_10 : decode cX2_faultOfTown 10 = .ok (.aload_n 0, 1) := by decide +kernel
theorem dX2_faultOfTown_11 : decode cX2_faultOfTown 11 = .ok (.iload_n 1, 1) := by decide +kernel
theorem dX2_faultOfTown_12 : decode cX2_faultOfTown 12 = .ok (.invokevirtual 27, 3) := by decide +kernel
theorem dX2_faultOfTown_15 : decode cX2_faultOfTown 15 = .ok (.ifCond .ne 5, 3) := by decide +kernel
theorem dX2_faultOfTown_18 : decode cX2_faultOfTown 18 = .ok (.iload_n 1, 1) := by decide +kernel
theorem dX2_faultOfTown_19 : decode cX2_faultOfTown 19 = .ok (.ireturn, 1) := by decide +kernel
theorem dX2_faultOfTown_20 : decode cX2_faultOfTown 20 = .ok (.iinc 1 1, 3) := by decide +kernel
theorem dX2_faultOfTown_23 : decode cX2_faultOfTown 23 = .ok (.goto (-21), 3) := by decide +kernel
theorem dX2_faultOfTown_26 : decode cX2_faultOfTown 26 = .ok (.aload_n 0, 1) := by decide +kernel
theorem dX2_faultOfTown_27 : decode cX2_faultOfTown 27 = .ok (.getfield 15, 3) := by decide +kernel
theorem dX2_faultOfTown_30 : decode cX2_faultOfTown 30 = .ok (.ireturn, 1) := by decide +kernel
theorem dX2_faultOfRound_0 : decode cX2_faultOfRound 0 = .ok (.iconst 0, 1) := by decide +kernel
theorem dX2_faultOfRound_1 : decode cX2_faultOfRound 1 = .ok (.istore_n 2, 1) := by decide +kernel
theorem dX2_faultOfRound_2 : decode cX2_faultOfRound 2 = .ok (.iload_n 2, 1) := by decide +kernel
theorem dX2_faultOfRound_3 : decode cX2_faultOfRound 3 = .ok (.aload_n 0, 1) := by decide +kernel
theorem dX2_faultOfRound_4 : decode cX2_faultOfRound 4 = .ok (.getfield 15, 3) := by decide +kernel
theorem dX2_faultOfRound_7 : decode cX2_faultOfRound 7 = .ok (.if_icmp .ge 32, 3) := by decide +kernel
theorem dX2_faultOfRound_10 : decode cX2_faultOfRound 10 = .ok (.aload_n 0, 1) := by decide +kernel
theorem dX2_faultOfRound_11 : decode cX2_faultOfRound 11 = .ok (.iload_n 2, 1) := by decide +kernel
theorem dX2_faultOfRound_12 : decode cX2_faultOfRound 12 = .ok (.invokevirtual 31, 3) := by decide +kernel
theorem dX2_faultOfRound_15 : decode cX2_faultOfRound 15 = .ok (.istore_n 3, 1) := by decide +kernel
theorem dX2_faultOfRound_16 : decode cX2_faultOfRound 16 = .ok (.iload_n 2, 1) := by decide +kernel
theorem dX2_faultOfRound_17 : decode cX2_faultOfRound 17 = .ok (.bipush 8, 2) := by decide +kernel
theorem dX2_faultOfRound_19 : decode cX2_faultOfRound 19 = .ok (.if_icmp .ge 12, 3) := by decide +kernel
theorem dX2_faultOfRound_22 : decode cX2_faultOfRound 22 = .ok (.iload_n 3, 1) := by decide +kernel
theorem dX2_faultOfRound_23 : decode cX2_faultOfRound 23 = .ok (.ifCond .lt 8, 3) := by decide +kernel
theorem dX2_faultOfRound_26 : decode cX2_faultOfRound 26 = .ok (.iload_n 3, 1) := by decide +kernel
theorem dX2_faultOfRound_27 : decode cX2_faultOfRound 27 = .ok (.iload_n 1, 1) := by decide +kernel
theorem dX2_faultOfRound_28 : decode cX2_faultOfRound 28 = .ok (.if_icmp .lt 5, 3) := by decide +kernel
theorem dX2_faultOfRound_31 : decode cX2_faultOfRound 31 = .ok (.iload_n 2, 1) := by decide +kernel
theorem dX2_faultOfRound_32 : decode cX2_faultOfRound 32 = .ok (.ireturn, 1) := by decide +kernel
theorem dX2_faultOfRound_33 : decode cX2_faultOfRound 33 = .ok (.iinc 2 1, 3) := by decide +kernel
theorem dX2_faultOfRound_36 : decode cX2_faultOfRound 36 = .ok (.goto (-34), 3) := by decide +kernel
theorem dX2_faultOfRound_39 : decode cX2_faultOfRound 39 = .ok (.aload_n 0, 1) := by decide +kernel
theorem dX2_faultOfRound_40 : decode cX2_faultOfRound 40 = .ok (.getfield 15, 3) := by decide +kernel
theorem dX2_faultOfRound_43 : decode cX2_faultOfRound 43 = .ok (.ireturn, 1) := by decide +kernel
theorem dX2_isTown_0 : decode cX2_isTown 0 = .ok (.aload_n 0, 1) := by decide +kernel
theorem dX2_isTown_1 : decode cX2_isTown 1 = .ok (.getfield 15, 3) := by decide +kernel
theorem dX2_isTown_4 : decode cX2_isTown 4 = .ok (.iconst 5, 1) := by decide +kernel
theorem dX2_isTown_5 : decode cX2_isTown 5 = .ok (.irem, 1) := by decide +kernel
theorem dX2_isTown_6 : decode cX2_isTown 6 = .ok (.iconst 4, 1) := by decide +kernel
theorem dX2_isTown_7 : decode cX2_isTown 7 = .ok (.if_icmp .ne 7, 3) := by decide +kernel
theorem dX2_isTown_10 : decode cX2_isTown 10 = .ok (.iconst 1, 1) := by decide +kernel
theorem dX2_isTown_11 : decode cX2_isTown 11 = .ok (.goto 4, 3) := by decide +kernel
theorem dX2_isTown_14 : decode cX2_isTown 14 = .ok (.iconst 0, 1) := by decide +kernel
theorem dX2_isTown_15 : decode cX2_isTown 15 = .ok (.istore_n 1, 1) := by decide +kernel
theorem dX2_isTown_16 : decode cX2_isTown 16 = .ok (.iload_n 1, 1) := by decide +kernel
theorem dX2_isTown_17 : decode cX2_isTown 17 = .ok (.ifCond .eq 30, 3) := by decide +kernel
theorem dX2_isTown_20 : decode cX2_isTown 20 = .ok (.aload_n 0, 1) := by decide +kernel
theorem dX2_isTown_21 : decode cX2_isTown 21 = .ok (.getfield 15, 3) := by decide +kernel
theorem dX2_isTown_24 : decode cX2_isTown 24 = .ok (.iconst 5, 1) := by decide +kernel
theorem dX2_isTown_25 : decode cX2_isTown 25 = .ok (.idiv, 1) := by decide +kernel
theorem dX2_isTown_26 : decode cX2_isTown 26 = .ok (.iconst 1, 1) := by decide +kernel
theorem dX2_isTown_27 : decode cX2_isTown 27 = .ok (.iadd, 1) := by decide +kernel
theorem dX2_isTown_28 : decode cX2_isTown 28 = .ok (.iconst 2, 1) := by decide +kernel
theorem dX2_isTown_29 : decode cX2_isTown 29 = .ok (.if_icmp .lt 18, 3) := by decide +kernel
theorem dX2_isTown_32 : decode cX2_isTown 32 = .ok (.aload_n 0, 1) := by decide +kernel
theorem dX2_isTown_33 : decode cX2_isTown 33 = .ok (.invokevirtual 35, 3) := by decide +kernel
theorem dX2_isTown_36 : decode cX2_isTown 36 = .ok (.aload_n 0, 1) := by decide +kernel
theorem dX2_isTown_37 : decode cX2_isTown 37 = .ok (.getfield 15, 3) := by decide +kernel
theorem dX2_isTown_40 : decode cX2_isTown 40 = .ok (.if_icmp .ne 7, 3) := by decide +kernel
theorem dX2_isTown_43 : decode cX2_isTown 43 = .ok (.iconst 1, 1) := by decide +kernel
theorem dX2_isTown_44 : decode cX2_isTown 44 = .ok (.goto 4, 3) := by decide +kernel
theorem dX2_isTown_47 : decode cX2_isTown 47 = .ok (.iconst 0, 1) := by decide +kernel
theorem dX2_isTown_48 : decode cX2_isTown 48 = .ok (.ireturn, 1) := by decide +kernel
theorem dX2_isRound_0 : decode cX2_isRound 0 = .ok (.aload_n 0, 1) := by decide +kernel
theorem dX2_isRound_1 : decode cX2_isRound 1 = .ok (.getfield 15, 3) := by decide +kernel
theorem dX2_isRound_4 : decode cX2_isRound 4 = .ok (.ifCond .le 19, 3) := by decide +kernel
theorem dX2_isRound_7 : decode cX2_isRound 7 = .ok (.aload_n 0, 1) := by decide +kernel
theorem dX2_isRound_8 : decode cX2_isRound 8 = .ok (.iload_n 1, 1) := by decide +kernel
theorem dX2_isRound_9 : decode cX2_isRound 9 = .ok (.invokevirtual 39, 3) := by decide +kernel
theorem dX2_isRound_12 : decode cX2_isRound 12 = .ok (.aload_n 0, 1) := by decide +kernel
theorem dX2_isRound_13 : decode cX2_isRound 13 = .ok (.getfield 15, 3) := by decide +kernel
theorem dX2_isRound_16 : decode cX2_isRound 16 = .ok (.if_icmp .ne 7, 3) := by decide +kernel
theorem dX2_isRound_19 : decode cX2_isRound 19 = .ok (.iconst 1, 1) := by decide +kernel
theorem dX2_isRound_20 : decode cX2_isRound 20 = .ok (.goto 4, 3) := by decide +kernel
theorem dX2_isRound_23 : decode cX2_isRound 23 = .ok (.iconst 0, 1) := by decide +kernel
theorem dX2_isRound_24 : decode cX2_isRound 24 = .ok (.ireturn, 1) := by decide +kernel
theorem dX2_borrowers_0 : decode cX2_borrowers 0 = .ok (.aload_n 0, 1) := by decide +kernel
theorem dX2_borrowers_1 : decode cX2_borrowers 1 = .ok (.getfield 15, 3) := by decide +kernel
theorem dX2_borrowers_4 : decode cX2_borrowers 4 = .ok (.iconst 1, 1) := by decide +kernel
theorem dX2_borrowers_5 : decode cX2_borrowers 5 = .ok (.iadd, 1) := by decide +kernel
theorem dX2_borrowers_6 : decode cX2_borrowers 6 = .ok (.iconst 5, 1) := by decide +kernel
theorem dX2_borrowers_7 : decode cX2_borrowers 7 = .ok (.idiv, 1) := by decide +kernel
theorem dX2_borrowers_8 : decode cX2_borrowers 8 = .ok (.ireturn, 1) := by decide +kernel
theorem dX2_borrowerFrom_0 : decode cX2_borrowerFrom 0 = .ok (.iload_n 1, 1) := by decide +kernel
theorem dX2_borrowerFrom_1 : decode cX2_borrowerFrom 1 = .ok (.iconst 5, 1) := by decide +kernel
theorem dX2_borrowerFrom_2 : decode cX2_borrowerFrom 2 = .ok (.imul, 1) := by decide +kernel
theorem dX2_borrowerFrom_3 : decode cX2_borrowerFrom 3 = .ok (.istore_n 2, 1) := by decide +kernel
theorem dX2_borrowerFrom_4 : decode cX2_borrowerFrom 4 = .ok (.aload_n 0, 1) := by decide +kernel
theorem dX2_borrowerFrom_5 : decode cX2_borrowerFrom 5 = .ok (.iload_n 2, 1) := by decide +kernel
theorem dX2_borrowerFrom_6 : decode cX2_borrowerFrom 6 = .ok (.iconst 1, 1) := by decide +kernel
theorem dX2_borrowerFrom_7 : decode cX2_borrowerFrom 7 = .ok (.iadd, 1) := by decide +kernel
theorem dX2_borrowerFrom_8 : decode cX2_borrowerFrom 8 = .ok (.invokevirtual 31, 3) := by decide +kernel
theorem dX2_borrowerFrom_11 : decode cX2_borrowerFrom 11 = .ok (.istore_n 3, 1) := by decide +kernel
theorem dX2_borrowerFrom_12 : decode cX2_borrowerFrom 12 = .ok (.aload_n 0, 1) := by decide +kernel
theorem dX2_borrowerFrom_13 : decode cX2_borrowerFrom 13 = .ok (.iload_n 2, 1) := by decide +kernel
theorem dX2_borrowerFrom_14 : decode cX2_borrowerFrom 14 = .ok (.iconst 2, 1) := by decide +kernel
theorem dX2_borrowerFrom_15 : decode cX2_borrowerFrom 15 = .ok (.iadd, 1) := by decide +kernel
theorem dX2_borrowerFrom_16 : decode cX2_borrowerFrom 16 = .ok (.invokevirtual 31, 3) := by decide +kernel
theorem dX2_borrowerFrom_19 : decode cX2_borrowerFrom 19 = .ok (.istore 4, 2) := by decide +kernel
theorem dX2_borrowerFrom_21 : decode cX2_borrowerFrom 21 = .ok (.aload_n 0, 1) := by decide +kernel
theorem dX2_borrowerFrom_22 : decode cX2_borrowerFrom 22 = .ok (.iload_n 2, 1) := by decide +kernel
theorem dX2_borrowerFrom_23 : decode cX2_borrowerFrom 23 = .ok (.iconst 3, 1) := by decide +kernel
theorem dX2_borrowerFrom_24 : decode cX2_borrowerFrom 24 = .ok (.iadd, 1) := by decide +kernel
theorem dX2_borrowerFrom_25 : decode cX2_borrowerFrom 25 = .ok (.invokevirtual 31, 3) := by decide +kernel
theorem dX2_borrowerFrom_28 : decode cX2_borrowerFrom 28 = .ok (.istore 5, 2) := by decide +kernel
theorem dX2_borrowerFrom_30 : decode cX2_borrowerFrom 30 = .ok (.aload_n 0, 1) := by decide +kernel
theorem dX2_borrowerFrom_31 : decode cX2_borrowerFrom 31 = .ok (.getfield 9, 3) := by decide +kernel
theorem dX2_borrowerFrom_34 : decode cX2_borrowerFrom 34 = .ok (.iload_n 2, 1) := by decide +kernel
theorem dX2_borrowerFrom_35 : decode cX2_borrowerFrom 35 = .ok (.invokestatic 23, 3) := by decide +kernel
theorem dX2_borrowerFrom_38 : decode cX2_borrowerFrom 38 = .ok (.lookupswitch 94 #[(100, 81), (115, 42), (116, 55), (119, 68)], 42) := by decide +kernel
theorem dX2_borrowerFrom_80 : decode cX2_borrowerFrom 80 = .ok (.new 42, 3) := by decide +kernel
theorem dX2_borrowerFrom_83 : decode cX2_borrowerFrom 83 = .ok (.dup, 1) := by decide +kernel
theorem dX2_borrowerFrom_84 : decode cX2_borrowerFrom 84 = .ok (.iload_n 3, 1) := by decide +kernel
theorem dX2_borrowerFrom_85 : decode cX2_borrowerFrom 85 = .ok (.iload 4, 2) := by decide +kernel
theorem dX2_borrowerFrom_87 : decode cX2_borrowerFrom 87 = .ok (.iload 5, 2) := by decide +kernel
theorem dX2_borrowerFrom_89 : decode cX2_borrowerFrom 89 = .ok (.invokespecial 44, 3) := by decide +kernel
theorem dX2_borrowerFrom_92 : decode cX2_borrowerFrom 92 = .ok (.areturn, 1) := by decide +kernel
theorem dX2_borrowerFrom_93 : decode cX2_borrowerFrom 93 = .ok (.new 47, 3) := by decide +kernel
theorem dX2_borrowerFrom_96 : decode cX2_borrowerFrom 96 = .ok (.dup, 1) := by decide +kernel
theorem dX2_borrowerFrom_97 : decode cX2_borrowerFrom 97 = .ok (.iload_n 3, 1) := by decide +kernel
theorem dX2_borrowerFrom_98 : decode cX2_borrowerFrom 98 = .ok (.iload 4, 2) := by decide +kernel
theorem dX2_borrowerFrom_100 : decode cX2_borrowerFrom 100 = .ok (.iload 5, 2) := by decide +kernel
theorem dX2_borrowerFrom_102 : decode cX2_borrowerFrom 102 = .ok (.invokespecial 49, 3) := by decide +kernel
theorem dX2_borrowerFrom_105 : decode cX2_borrowerFrom 105 = .ok (.areturn, 1) := by decide +kernel
theorem dX2_borrowerFrom_106 : decode cX2_borrowerFrom 106 = .ok (.new 50, 3) := by decide +kernel
theorem dX2_borrowerFrom_109 : decode cX2_borrowerFrom 109 = .ok (.dup, 1) := by decide +kernel
theorem dX2_borrowerFrom_110 : decode cX2_borrowerFrom 110 = .ok (.iload_n 3, 1) := by decide +kernel
theorem dX2_borrowerFrom_111 : decode cX2_borrowerFrom 111 = .ok (.iload 4, 2) := by decide +kernel
theorem dX2_borrowerFrom_113 : decode cX2_borrowerFrom 113 = .ok (.iload 5, 2) := by decide +kernel
theorem dX2_borrowerFrom_115 : decode cX2_borrowerFrom 115 = .ok (.invokespecial 52, 3) := by decide +kernel
theorem dX2_borrowerFrom_118 : decode cX2_borrowerFrom 118 = .ok (.areturn, 1) := by decide +kernel
theorem dX2_borrowerFrom_119 : decode cX2_borrowerFrom 119 = .ok (.new 53, 3) := by decide +kernel
theorem dX2_borrowerFrom_122 : decode cX2_borrowerFrom 122 = .ok (.dup, 1) := by decide +kernel
theorem dX2_borrowerFrom_123 : decode cX2_borrowerFrom 123 = .ok (.iload_n 3, 1) := by decide +kernel
theorem dX2_borrowerFrom_124 : decode cX2_borrowerFrom 124 = .ok (.iload 4, 2) := by decide +kernel
theorem dX2_borrowerFrom_126 : decode cX2_borrowerFrom 126 = .ok (.iload 5, 2) := by decide +kernel
theorem dX2_borrowerFrom_128 : decode cX2_borrowerFrom 128 = .ok (.invokespecial 55, 3) := by decide +kernel
theorem dX2_borrowerFrom_131 : decode cX2_borrowerFrom 131 = .ok (.areturn, 1) := by decide +kernel
theorem dX2_borrowerFrom_132 : decode cX2_borrowerFrom 132 = .ok (.new 56, 3) := by decide +kernel
theorem dX2_borrowerFrom_135 : decode cX2_borrowerFrom 135 = .ok (.dup, 1) := by decide +kernel
theorem dX2_borrowerFrom_136 : decode cX2_borrowerFrom 136 = .ok (.iload_n 3, 1) := by decide +kernel
theorem dX2_borrowerFrom_137 : decode cX2_borrowerFrom 137 = .ok (.iload 4, 2) := by decide +kernel
theorem dX2_borrowerFrom_139 : decode cX2_borrowerFrom 139 = .ok (.iload 5, 2) := by decide +kernel
theorem dX2_borrowerFrom_141 : decode cX2_borrowerFrom 141 = .ok (.invokespecial 58, 3) := by decide +kernel
theorem dX2_borrowerFrom_144 : decode cX2_borrowerFrom 144 = .ok (.areturn, 1) := by decide +kernel
theorem dX2_fitsTown_0 : decode cX2_fitsTown 0 = .ok (.iload_n 1, 1) := by decide +kernel
theorem dX2_fitsTown_1 : decode cX2_fitsTown 1 = .ok (.bipush 29, 2) := by decide +kernel
theorem dX2_fitsTown_3 : decode cX2_fitsTown 3 = .ok (.if_icmp .lt 5, 3) := by decide +kernel
theorem dX2_fitsTown_6 : decode cX2_fitsTown 6 = .ok (.iconst 0, 1) := by decide +kernel
theorem dX2_fitsTown_7 : decode cX2_fitsTown 7 = .ok (.ireturn, 1) := by decide +kernel
theorem dX2_fitsTown_8 : decode cX2_fitsTown 8 = .ok (.aload_n 0, 1) := by decide +kernel
theorem dX2_fitsTown_9 : decode cX2_fitsTown 9 = .ok (.getfield 9, 3) := by decide +kernel
theorem dX2_fitsTown_12 : decode cX2_fitsTown 12 = .ok (.iload_n 1, 1) := by decide +kernel
theorem dX2_fitsTown_13 : decode cX2_fitsTown 13 = .ok (.invokestatic 23, 3) := by decide +kernel
theorem dX2_fitsTown_16 : decode cX2_fitsTown 16 = .ok (.istore_n 2, 1) := by decide +kernel
theorem dX2_fitsTown_17 : decode cX2_fitsTown 17 = .ok (.iload_n 1, 1) := by decide +kernel
theorem dX2_fitsTown_18 : decode cX2_fitsTown 18 = .ok (.iconst 5, 1) := by decide +kernel
theorem dX2_fitsTown_19 : decode cX2_fitsTown 19 = .ok (.irem, 1) := by decide +kernel
theorem dX2_fitsTown_20 : decode cX2_fitsTown 20 = .ok (.tableswitch 122 0 3 #[32, 68, 86, 104], 32) := by decide +kernel
theorem dX2_fitsTown_52 : decode cX2_fitsTown 52 = .ok (.iload_n 2, 1) := by decide +kernel
theorem dX2_fitsTown_53 : decode cX2_fitsTown 53 = .ok (.bipush 97, 2) := by decide +kernel
theorem dX2_fitsTown_55 : decode cX2_fitsTown 55 = .ok (.if_icmp .eq 27, 3) := by decide +kernel
theorem dX2_fitsTown_58 : decode cX2_fitsTown 58 = .ok (.iload_n 2, 1) := by decide +kernel
theorem dX2_fitsTown_59 : decode cX2_fitsTown 59 = .ok (.bipush 115, 2) := by decide +kernel
theorem dX2_fitsTown_61 : decode cX2_fitsTown 61 = .ok (.if_icmp .eq 21, 3) := by decide +kernel
theorem dX2_fitsTown_64 : decode cX2_fitsTown 64 = .ok (.iload_n 2, 1) := by decide +kernel
theorem dX2_fitsTown_65 : decode cX2_fitsTown 65 = .ok (.bipush 116, 2) := by decide +kernel
theorem dX2_fitsTown_67 : decode cX2_fitsTown 67 = .ok (.if_icmp .eq 15, 3) := by decide +kernel
theorem dX2_fitsTown_70 : decode cX2_fitsTown 70 = .ok (.iload_n 2, 1) := by decide +kernel
theorem dX2_fitsTown_71 : decode cX2_fitsTown 71 = .ok (.bipush 119, 2) := by decide +kernel
theorem dX2_fitsTown_73 : decode cX2_fitsTown 73 = .ok (.if_icmp .eq 9, 3) := by decide +kernel
theorem dX2_fitsTown_76 : decode cX2_fitsTown 76 = .ok (.iload_n 2, 1) := by decide +kernel
theorem dX2_fitsTown_77 : decode cX2_fitsTown 77 = .ok (.bipush 100, 2) := by decide +kernel
theorem dX2_fitsTown_79 : decode cX2_fitsTown 79 = .ok (.if_icmp .ne 7, 3) := by decide +kernel
theorem dX2_fitsTown_82 : decode cX2_fitsTown 82 = .ok (.iconst 1, 1) := by decide +kernel
theorem dX2_fitsTown_83 : decode cX2_fitsTown 83 = .ok (.goto 4, 3) := by decide +kernel
theorem dX2_fitsTown_86 : decode cX2_fitsTown 86 = .ok (.iconst 0, 1) := by decide +kernel
theorem dX2_fitsTown_87 : decode cX2_fitsTown 87 = .ok (.ireturn, 1) := by decide +kernel
theorem dX2_fitsTown_88 : decode cX2_fitsTown 88 = .ok (.iload_n 2, 1) := by decide +kernel
theorem dX2_fitsTown_89 : decode cX2_fitsTown 89 = .ok (.bipush 48, 2) := by decide +kernel
theorem dX2_fitsTown_91 : decode cX2_fitsTown 91 = .ok (.if_icmp .lt 13, 3) := by decide +kernel
theorem dX2_fitsTown_94 : decode cX2_fitsTown 94 = .ok (.iload_n 2, 1) := by decide +kernel
theorem dX2_fitsTown_95 : decode cX2_fitsTown 95 = .ok (.bipush 51, 2) := by decide +kernel
theorem dX2_fitsTown_97 : decode cX2_fitsTown 97 = .ok (.if_icmp .ge 7, 3) := by decide +kernel
theorem dX2_fitsTown_100 : decode cX2_fitsTown 100 = .ok (.iconst 1, 1) := by decide +kernel
theorem dX2_fitsTown_101 : decode cX2_fitsTown 101 = .ok (.goto 4, 3) := by decide +kernel
theorem dX2_fitsTown_104 : decode cX2_fitsTown 104 = .ok (.iconst 0, 1) := by decide +kernel
theorem dX2_fitsTown_105 : decode cX2_fitsTown 105 = .ok (.ireturn, 1) := by decide +kernel
theorem dX2_fitsTown_106 : decode cX2_fitsTown 106 = .ok (.iload_n 2, 1) := by decide +kernel
theorem dX2_fitsTown_107 : decode cX2_fitsTown 107 = .ok (.bipush 49, 2) := by decide +kernel
theorem dX2_fitsTown_109 : decode cX2_fitsTown 109 = .ok (.if_icmp .lt 13, 3) := by decide +kernel
theorem dX2_fitsTown_112 : decode cX2_fitsTown 112 = .ok (.iload_n 2, 1) := by decide +kernel
theorem dX2_fitsTown_113 : decode cX2_fitsTown 113 = .ok (.bipush 55, 2) := by decide +kernel
theorem dX2_fitsTown_115 : decode cX2_fitsTown 115 = .ok (.if_icmp .gt 7, 3) := by decide +kernel
theorem dX2_fitsTown_118 : decode cX2_fitsTown 118 = .ok (.iconst 1, 1) := by decide +kernel
theorem dX2_fitsTown_119 : decode cX2_fitsTown 119 = .ok (.goto 4, 3) := by decide +kernel
theorem dX2_fitsTown_122 : decode cX2_fitsTown 122 = .ok (.iconst 0, 1) := by decide +kernel
theorem dX2_fitsTown_123 : decode cX2_fitsTown 123 = .ok (.ireturn, 1) := by decide +kernel
theorem dX2_fitsTown_124 : decode cX2_fitsTown 124 = .ok (.iload_n 2, 1) := by decide +kernel
theorem dX2_fitsTown_125 : decode cX2_fitsTown 125 = .ok (.bipush 49, 2) := by decide +kernel
theorem dX2_fitsTown_127 : decode cX2_fitsTown 127 = .ok (.if_icmp .lt 13, 3) := by decide +kernel
theorem dX2_fitsTown_130 : decode cX2_fitsTown 130 = .ok (.iload_n 2, 1) := by decide +kernel
theorem dX2_fitsTown_131 : decode cX2_fitsTown 131 = .ok (.bipush 53, 2) := by decide +kernel
theorem dX2_fitsTown_133 : decode cX2_fitsTown 133 = .ok (.if_icmp .gt 7, 3) := by decide +kernel
theorem dX2_fitsTown_136 : decode cX2_fitsTown 136 = .ok (.iconst 1, 1) := by decide +kernel
theorem dX2_fitsTown_137 : decode cX2_fitsTown 137 = .ok (.goto 4, 3) := by decide +kernel
theorem dX2_fitsTown_140 : decode cX2_fitsTown 140 = .ok (.iconst 0, 1) := by decide +kernel
theorem dX2_fitsTown_141 : decode cX2_fitsTown 141 = .ok (.ireturn, 1) := by decide +kernel
theorem dX2_fitsTown_142 : decode cX2_fitsTown 142 = .ok (.iload_n 2, 1) := by decide +kernel
theorem dX2_fitsTown_143 : decode cX2_fitsTown 143 = .ok (.bipush 44, 2) := by decide +kernel
theorem dX2_fitsTown_145 : decode cX2_fitsTown 145 = .ok (.if_icmp .ne 7, 3) := by decide +kernel
theorem dX2_fitsTown_148 : decode cX2_fitsTown 148 = .ok (.iconst 1, 1) := by decide +kernel
theorem dX2_fitsTown_149 : decode cX2_fitsTown 149 = .ok (.goto 4, 3) := by decide +kernel
theorem dX2_fitsTown_152 : decode cX2_fitsTown 152 = .ok (.iconst 0, 1) := by decide +kernel
theorem dX2_fitsTown_153 : decode cX2_fitsTown 153 = .ok (.ireturn, 1) := by decide +kernel
theorem dX3_init_0 : decode cX3_init 0 = .ok (.aload_n 0, 1) := by decide +kernel
theorem dX3_init_1 : decode cX3_init 1 = .ok (.invokespecial 3, 3) := by decide +kernel
theorem dX3_init_4 : decode cX3_init 4 = .ok (.aload_n 0, 1) := by decide +kernel
theorem dX3_init_5 : decode cX3_init 5 = .ok (.sipush 512, 3) := by decide +kernel
theorem dX3_init_8 : decode cX3_init 8 = .ok (.newarray .int, 2) := by decide +kernel
theorem dX3_init_10 : decode cX3_init 10 = .ok (.putfield 9, 3) := by decide +kernel
theorem dX3_init_13 : decode cX3_init 13 = .ok (.aload_n 0, 1) := by decide +kernel
theorem dX3_init_14 : decode cX3_init 14 = .ok (.sipush 512, 3) := by decide +kernel
theorem dX3_init_17 : decode cX3_init 17 = .ok (.newarray .int, 2) := by decide +kernel
theorem dX3_init_19 : decode cX3_init 19 = .ok (.putfield 15, 3) := by decide +kernel
theorem dX3_init_22 : decode cX3_init 22 = .ok (.aload_n 0, 1) := by decide +kernel
theorem dX3_init_23 : decode cX3_init 23 = .ok (.sipush 512, 3) := by decide +kernel
theorem dX3_init_26 : decode cX3_init 26 = .ok (.newarray .int, 2) := by decide +kernel
theorem dX3_init_28 : decode cX3_init 28 = .ok (.putfield 18, 3) := by decide +kernel
theorem dX3_init_31 : decode cX3_init 31 = .ok (.aload_n 0, 1) := by decide +kernel
theorem dX3_init_32 : decode cX3_init 32 = .ok (.sipush 512, 3) := by decide +kernel
theorem dX3_init_35 : decode cX3_init 35 = .ok (.newarray .int, 2) := by decide +kernel
theorem dX3_init_37 : decode cX3_init 37 = .ok (.putfield 21, 3) := by decide +kernel
theorem dX3_init_40 : decode cX3_init 40 = .ok (.aload_n 0, 1) := by decide +kernel
theorem dX3_init_41 : decode cX3_init 41 = .ok (.aload_n 1, 1) := by decide +kernel
theorem dX3_init_42 : decode cX3_init 42 = .ok (.putfield 24, 3) := by decide +kernel
theorem dX3_init_45 : decode cX3_init 45 = .ok (.return_, 1) := by decide +kernel
theorem dX3_howManyTo_0 : decode cX3_howManyTo 0 = .ok (.aload_n 0, 1) := by decide +kernel
theorem dX3_howManyTo_1 : decode cX3_howManyTo 1 = .ok (.getfield 9, 3) := by decide +kernel
theorem dX3_howManyTo_4 : decode cX3_howManyTo 4 = .ok (.iload_n 1, 1) := by decide +kernel
theorem dX3_howManyTo_5 : decode cX3_howManyTo 5 = .ok (.invokestatic 28, 3) := by decide +kernel
theorem dX3_howManyTo_8 : decode cX3_howManyTo 8 = .ok (.ireturn, 1) := by decide +kernel
theorem dX3_inEachTo_0 : decode cX3_inEachTo 0 = .ok (.aload_n 0, 1) := by decide +kernel
theorem dX3_inEachTo_1 : decode cX3_inEachTo 1 = .ok (.getfield 9, 3) := by decide +kernel
theorem dX3_inEachTo_4 : decode cX3_inEachTo 4 = .ok (.iload_n 1, 1) := by decide +kernel
theorem dX3_inEachTo_5 : decode cX3_inEachTo 5 = .ok (.invokestatic 28, 3) := by decide +kernel
theorem dX3_inEachTo_8 : decode cX3_inEachTo 8 = .ok (.ifCond .ne 7, 3) := by decide +kernel
theorem dX3_inEachTo_11 : decode cX3_inEachTo 11 = .ok (.iconst 0, 1) := by decide +kernel
theorem dX3_inEachTo_12 : decode cX3_inEachTo 12 = .ok (.goto 11, 3) := by decide +kernel
theorem dX3_inEachTo_15 : decode cX3_inEachTo 15 = .ok (.aload_n 0, 1) := by decide +kernel
theorem dX3_inEachTo_16 : decode cX3_inEachTo 16 = .ok (.getfield 15, 3) := by decide +kernel
theorem dX3_inEachTo_19 : decode cX3_inEachTo 19 = .ok (.iload_n 1, 1) := by decide +kernel
theorem dX3_inEachTo_20 : decode cX3_inEachTo 20 = .ok (.invokestatic 28, 3) := by decide +kernel
theorem dX3_inEachTo_23 : decode cX3_inEachTo 23 = .ok (.ireturn, 1) := by decide +kernel
theorem dX3_follow_0 : decode cX3_follow 0 = .ok (.aload_n 0, 1) := by decide +kernel
theorem dX3_follow_1 : decode cX3_follow 1 = .ok (.getfield 9, 3) := by decide +kernel
theorem dX3_follow_4 : decode cX3_follow 4 = .ok (.iconst 0, 1) := by decide +kernel
theorem dX3_follow_5 : decode cX3_follow 5 = .ok (.invokestatic 32, 3) := by decide +kernel
theorem dX3_follow_8 : decode cX3_follow 8 = .ok (.aload_n 0, 1) := by decide +kernel
theorem dX3_follow_9 : decode cX3_follow 9 = .ok (.getfield 9, 3) := by decide +kernel
theorem dX3_follow_12 : decode cX3_follow 12 = .ok (.iload_n 1, 1) := by decide +kernel
theorem dX3_follow_13 : decode cX3_follow 13 = .ok (.iconst 1, 1) := by decide +kernel
theorem dX3_follow_14 : decode cX3_follow 14 = .ok (.invokestatic 36, 3) := by decide +kernel
theorem dX3_follow_17 : decode cX3_follow 17 = .ok (.aload_n 0, 1) := by decide +kernel
theorem dX3_follow_18 : decode cX3_follow 18 = .ok (.getfield 15, 3) := by decide +kernel
theorem dX3_follow_21 : decode cX3_follow 21 = .ok (.iload_n 1, 1) := by decide +kernel
theorem dX3_follow_22 : decode cX3_follow 22 = .ok (.iconst 0, 1) := by decide +kernel
theorem dX3_follow_23 : decode cX3_follow 23 = .ok (.invokestatic 36, 3) := by decide +kernel
theorem dX3_follow_26 : decode cX3_follow 26 = .ok (.iconst 0, 1) := by decide +kernel
theorem dX3_follow_27 : decode cX3_follow 27 = .ok (.istore_n 3, 1) := by decide +kernel
theorem dX3_follow_28 : decode cX3_follow 28 = .ok (.iload_n 3, 1) := by decide +kernel
theorem dX3_follow_29 : decode cX3_follow 29 = .ok (.iload_n 2, 1) := by decide +kernel
theorem dX3_follow_30 : decode cX3_follow 30 = .ok (.if_icmp .ge 56, 3) := by decide +kernel
theorem dX3_follow_33 : decode cX3_follow 33 = .ok (.aload_n 0, 1) := by decide +kernel
theorem dX3_follow_34 : decode cX3_follow 34 = .ok (.getfield 18, 3) := by decide +kernel
theorem dX3_follow_37 : decode cX3_follow 37 = .ok (.iconst 0, 1) := by decide +kernel
theorem dX3_follow_38 : decode cX3_follow 38 = .ok (.invokestatic 32, 3) := by decide +kernel
theorem dX3_follow_41 : decode cX3_follow 41 = .ok (.iconst 0, 1) := by decide +kernel
theorem dX3_follow_42 : decode cX3_follow 42 = .ok (.istore 4, 2) := by decide +kernel
theorem dX3_follow_44 : decode cX3_follow 44 = .ok (.iload 4, 2) := by decide +kernel
theorem dX3_follow_46 : decode cX3_follow 46 = .ok (.sipush 512, 3) := by decide +kernel
theorem dX3_follow_49 : decode cX3_follow 49 = .ok (.if_icmp .ge 27, 3) := by decide +kernel
theorem dX3_follow_52 : decode cX3_follow 52 = .ok (.aload_n 0, 1) := by decide +kernel
theorem dX3_follow_53 : decode cX3_follow 53 = .ok (.getfield 9, 3) := by decide +kernel
theorem dX3_follow_56 : decode cX3_follow 56 = .ok (.iload 4, 2) := by decide +kernel
theorem dX3_follow_58 : decode cX3_follow 58 = .ok (.invokestatic 28, 3) := by decide +kernel
theorem dX3_follow_61 : decode cX3_follow 61 = .ok (.ifCond .le 9, 3) := by decide +kernel
theorem dX3_follow_64 : decode cX3_follow 64 = .ok (.aload_n 0, 1) := by decide +kernel
theorem dX3_follow_65 : decode cX3_follow 65 = .ok (.iload 4, 2) := by decide +kernel
theorem dX3_follow_67 : decode cX3_follow 67 = .ok (.invokevirtual 40, 3) := by decide +kernel
theorem dX3_follow_70 : decode cX3_follow 70 = .ok (.iinc 4 1, 3) := by decide +kernel
theorem dX3_follow_73 : decode cX3_follow 73 = .ok (.goto (-29), 3) := by decide +kernel
theorem dX3_follow_76 : decode cX3_follow 76 = .ok (.aload_n 0, 1) := by decide +kernel
theorem dX3_follow_77 : decode cX3_follow 77 = .ok (.invokevirtual 44, 3) := by decide +kernel
theorem dX3_follow_80 : decode cX3_follow 80 = .ok (.iinc 3 1, 3) := by decide +kernel
theorem dX3_follow_83 : decode cX3_follow 83 = .ok (.goto (-55), 3) := by decide +kernel
theorem dX3_follow_86 : decode cX3_follow 86 = .ok (.return_, 1) := by decide +kernel
theorem dX3_lendToEach_0 : decode cX3_lendToEach 0 = .ok (.aload_n 0, 1) := by decide +kernel
theorem dX3_lendToEach_1 : decode cX3_lendToEach 1 = .ok (.getfield 9, 3) := by decide +kernel
theorem dX3_lendToEach_4 : decode cX3_lendToEach 4 = .ok (.iload_n 1, 1) := by decide +kernel
theorem dX3_lendToEach_5 : decode cX3_lendToEach 5 = .ok (.invokestatic 28, 3) := by decide +kernel
theorem dX3_lendToEach_8 : decode cX3_lendToEach 8 = .ok (.istore_n 2, 1) := by decide +kernel
theorem dX3_lendToEach_9 : decode cX3_lendToEach 9 = .ok (.iconst 0, 1) := by decide +kernel
theorem dX3_lendToEach_10 : decode cX3_lendToEach 10 = .ok (.istore_n 3, 1) := by decide +kernel
theorem dX3_lendToEach_11 : decode cX3_lendToEach 11 = .ok (.iload_n 3, 1) := by decide +kernel
theorem dX3_lendToEach_12 : decode cX3_lendToEach 12 = .ok (.aload_n 0, 1) := by decide +kernel
theorem dX3_lendToEach_13 : decode cX3_lendToEach 13 = .ok (.getfield 24, 3) := by decide +kernel
theorem dX3_lendToEach_16 : decode cX3_lendToEach 16 = .ok (.getfield 47, 3) := by decide +kernel
theorem dX3_lendToEach_19 : decode cX3_lendToEach 19 = .ok (.if_icmp .ge 89, 3) := by decide +kernel
theorem dX3_lendToEach_22 : decode cX3_lendToEach 22 = .ok (.aload_n 0, 1) := by decide +kernel
theorem dX3_lendToEach_23 : decode cX3_lendToEach 23 = .ok (.getfield 24, 3) := by decide +kernel
theorem dX3_lendToEach_26 : decode cX3_lendToEach 26 = .ok (.iload_n 3, 1) := by decide +kernel
theorem dX3_lendToEach_27 : decode cX3_lendToEach 27 = .ok (.iload_n 1, 1) := by decide +kernel
theorem dX3_lendToEach_28 : decode cX3_lendToEach 28 = .ok (.invokevirtual 53, 3) := by decide +kernel
theorem dX3_lendToEach_31 : decode cX3_lendToEach 31 = .ok (.istore 4, 2) := by decide +kernel
theorem dX3_lendToEach_33 : decode cX3_lendToEach 33 = .ok (.aload_n 0, 1) := by decide +kernel
theorem dX3_lendToEach_34 : decode cX3_lendToEach 34 = .ok (.getfield 15, 3) := by decide +kernel
theorem dX3_lendToEach_37 : decode cX3_lendToEach 37 = .ok (.iload_n 1, 1) := by decide +kernel
theorem dX3_lendToEach_38 : decode cX3_lendToEach 38 = .ok (.invokestatic 28, 3) := by decide +kernel
theorem dX3_lendToEach_41 : decode cX3_lendToEach 41 = .ok (.iconst 1, 1) := by decide +kernel
theorem dX3_lendToEach_42 : decode cX3_lendToEach 42 = .ok (.iload_n 3, 1) := by decide +kernel
theorem dX3_lendToEach_43 : decode cX3_lendToEach 43 = .ok (.ishl, 1) := by decide +kernel
theorem dX3_lendToEach_44 : decode cX3_lendToEach 44 = .ok (.ior, 1) := by decide +kernel
theorem dX3_lendToEach_45 : decode cX3_lendToEach 45 = .ok (.istore 5, 2) := by decide +kernel
theorem dX3_lendToEach_47 : decode cX3_lendToEach 47 = .ok (.aload_n 0, 1) := by decide +kernel
theorem dX3_lendToEach_48 : decode cX3_lendToEach 48 = .ok (.getfield 18, 3) := by decide +kernel
theorem dX3_lendToEach_51 : decode cX3_lendToEach 51 = .ok (.iload 4, 2) := by decide +kernel
theorem dX3_lendToEach_53 : decode cX3_lendToEach 53 = .ok (.invokestatic 28, 3) := by decide +kernel
theorem dX3_lendToEach_56 : decode cX3_lendToEach 56 = .ok (.istore 6, 2) := by decide +kernel
theorem dX3_lendToEach_58 : decode cX3_lendToEach 58 = .ok (.aload_n 0, 1) := by decide +kernel
theorem dX3_lendToEach_59 : decode cX3_lendToEach 59 = .ok (.getfield 21, 3) := by decide +kernel
theorem dX3_lendToEach_62 : decode cX3_lendToEach 62 = .ok (.iload 4, 2) := by decide +kernel
theorem dX3_lendToEach_64 : decode cX3_lendToEach 64 = .ok (.iload 6, 2) := by decide +kernel
theorem dX3_lendToEach_66 : decode cX3_lendToEach 66 = .ok (.ifCond .ne 8, 3) := by decide +kernel
theorem dX3_lendToEach_69 : decode cX3_lendToEach 69 = .ok (.iload 5, 2) := by decide +kernel
theorem dX3_lendToEach_71 : decode cX3_lendToEach 71 = .ok (.goto 15, 3) := by decide +kernel
theorem dX3_lendToEach_74 : decode cX3_lendToEach 74 = .ok (.aload_n 0, 1) := by decide +kernel
theorem dX3_lendToEach_75 : decode cX3_lendToEach 75 = .ok (.getfield 21, 3) := by decide +kernel
theorem dX3_lendToEach_78 : decode cX3_lendToEach 78 = .ok (.iload 4, 2) := by decide +kernel
theorem dX3_lendToEach_80 : decode cX3_lendToEach 80 = .ok (.invokestatic 28, 3) := by decide +kernel
theorem dX3_lendToEach_83 : decode cX3_lendToEach 83 = .ok (.iload 5, 2) := by decide +kernel
theorem dX3_lendToEach_85 : decode cX3_lendToEach 85 = .ok (.iand, 1) := by decide +kernel
theorem dX3_lendToEach_86 : decode cX3_lendToEach 86 = .ok (.invokestatic 36, 3) := by decide +kernel
theorem dX3_lendToEach_89 : decode cX3_lendToEach 89 = .ok (.aload_n 0, 1) := by decide +kernel
theorem dX3_lendToEach_90 : decode cX3_lendToEach 90 = .ok (.getfield 18, 3) := by decide +kernel
theorem dX3_lendToEach_93 : decode cX3_lendToEach 93 = .ok (.iload 4, 2) := by decide +kernel
theorem dX3_lendToEach_95 : decode cX3_lendToEach 95 = .ok (.iload 6, 2) := by decide +kernel
theorem dX3_lendToEach_97 : decode cX3_lendToEach 97 = .ok (.iload_n 2, 1) := by decide +kernel
theorem dX3_lendToEach_98 : decode cX3_lendToEach 98 = .ok (.iadd, 1) := by decide +kernel
theorem dX3_lendToEach_99 : decode cX3_lendToEach 99 = .ok (.invokestatic 36, 3) := by decide +kernel
theorem dX3_lendToEach_102 : decode cX3_lendToEach 102 = .ok (.iinc 3 1, 3) := by decide +kernel
theorem dX3_lendToEach_105 : decode cX3_lendToEach 105 = .ok (.goto (-94), 3) := by decide +kernel
theorem dX3_lendToEach_108 : decode cX3_lendToEach 108 = .ok (.return_, 1) := by decide +kernel
theorem dX3_stepOn_0 : decode cX3_stepOn 0 = .ok (.aload_n 0, 1) := by decide +kernel
theorem dX3_stepOn_1 : decode cX3_stepOn 1 = .ok (.getfield 9, 3) := by decide +kernel
theorem dX3_stepOn_4 : decode cX3_stepOn 4 = .ok (.astore_n 1, 1) := by decide +kernel
theorem dX3_stepOn_5 : decode cX3_stepOn 5 = .ok (.aload_n 0, 1) := by decide +kernel
theorem dX3_stepOn_6 : decode cX3_stepOn 6 = .ok (.aload_n 0, 1) := by decide +kernel
theorem dX3_stepOn_7 : decode cX3_stepOn 7 = .ok (.getfield 18, 3) := by decide +kernel
theorem dX3_stepOn_10 : decode cX3_stepOn 10 = .ok (.putfield 9, 3) := by decide +kernel
theorem dX3_stepOn_13 : decode cX3_stepOn 13 = .ok (.aload_n 0, 1) := by decide +kernel
theorem dX3_stepOn_14 : decode cX3_stepOn 14 = .ok (.aload_n 1, 1) := by decide +kernel
theorem dX3_stepOn_15 : decode cX3_stepOn 15 = .ok (.putfield 18, 3) := by decide +kernel
theorem dX3_stepOn_18 : decode cX3_stepOn 18 = .ok (.aload_n 0, 1) := by decide +kernel
theorem dX3_stepOn_19 : decode cX3_stepOn 19 = .ok (.getfield 15, 3) := by decide +kernel
theorem dX3_stepOn_22 : decode cX3_stepOn 22 = .ok (.astore_n 1, 1) := by decide +kernel
theorem dX3_stepOn_23 : decode cX3_stepOn 23 = .ok (.aload_n 0, 1) := by decide +kernel
theorem dX3_stepOn_24 : decode cX3_stepOn 24 = .ok (.aload_n 0, 1) := by decide +kernel
theorem dX3_stepOn_25 : decode cX3_stepOn 25 = .ok (.getfield 21, 3) := by decide +kernel
theorem dX3_stepOn_28 : decode cX3_stepOn 28 = .ok (.putfield 15, 3) := by decide +kernel
theorem dX3_stepOn_31 : decode cX3_stepOn 31 = .ok (.aload_n 0, 1) := by decide +kernel
theorem dX3_stepOn_32 : decode cX3_stepOn 32 = .ok (.aload_n 1, 1) := by decide +kernel
theorem dX3_stepOn_33 : decode cX3_stepOn 33 = .ok (.putfield 21, 3) := by decide +kernel
theorem dX3_stepOn_36 : decode cX3_stepOn 36 = .ok (.return_, 1) := by decide +kernel
theorem dX4_init_0 : decode cX4_init 0 = .ok (.aload_n 0, 1) := by decide +kernel
theorem dX4_init_1 : decode cX4_init 1 = .ok (.iload_n 1, 1) := by decide +kernel
theorem dX4_init_2 : decode cX4_init 2 = .ok (.iload_n 2, 1) := by decide +kernel
theorem dX4_init_3 : decode cX4_init 3 = .ok (.iload_n 3, 1) := by decide +kernel
theorem dX4_init_4 : decode cX4_init 4 = .ok (.invokespecial 3, 3) := by decide +kernel
theorem dX4_init_7 : decode cX4_init 7 = .ok (.return_, 1) := by decide +kernel
theorem dX4_kind_0 : decode cX4_kind 0 = .ok (.iconst 1, 1) := by decide +kernel
theorem dX4_kind_1 : decode cX4_kind 1 = .ok (.ireturn, 1) := by decide +kernel
theorem dX4_changed_0 : decode cX4_changed 0 = .ok (.aload_n 0, 1) := by decide +kernel
theorem dX4_changed_1 : decode cX4_changed 1 = .ok (.getfield 9, 3) := by decide +kernel
theorem dX4_changed_4 : decode cX4_changed 4 = .ok (.ireturn, 1) := by decide +kernel
theorem dX5_init_0 : decode cX5_init 0 = .ok (.aload_n 0, 1) := by decide +kernel
theorem dX5_init_1 : decode cX5_init 1 = .ok (.invokespecial 3, 3) := by decide +kernel
theorem dX5_init_4 : decode cX5_init 4 = .ok (.aload_n 0, 1) := by decide +kernel
theorem dX5_init_5 : decode cX5_init 5 = .ok (.sipush 512, 3) := by decide +kernel
theorem dX5_init_8 : decode cX5_init 8 = .ok (.newarray .int, 2) := by decide +kernel
theorem dX5_init_10 : decode cX5_init 10 = .ok (.putfield 9, 3) := by decide +kernel
theorem dX5_init_13 : decode cX5_init 13 = .ok (.aload_n 0, 1) := by decide +kernel
theorem dX5_init_14 : decode cX5_init 14 = .ok (.sipush 512, 3) := by decide +kernel
theorem dX5_init_17 : decode cX5_init 17 = .ok (.newarray .int, 2) := by decide +kernel
theorem dX5_init_19 : decode cX5_init 19 = .ok (.putfield 15, 3) := by decide +kernel
theorem dX5_init_22 : decode cX5_init 22 = .ok (.aload_n 0, 1) := by decide +kernel
theorem dX5_init_23 : decode cX5_init 23 = .ok (.aload_n 1, 1) := by decide +kernel
theorem dX5_init_24 : decode cX5_init 24 = .ok (.putfield 18, 3) := by decide +kernel
theorem dX5_init_27 : decode cX5_init 27 = .ok (.return_, 1) := by decide +kernel
theorem dX5_fewest_0 : decode cX5_fewest 0 = .ok (.iload_n 1, 1) := by decide +kernel
theorem dX5_fewest_1 : decode cX5_fewest 1 = .ok (.iload_n 2, 1) := by decide +kernel
theorem dX5_fewest_2 : decode cX5_fewest 2 = .ok (.invokestatic 22, 3) := by decide +kernel
theorem dX5_fewest_5 : decode cX5_fewest 5 = .ok (.iload_n 3, 1) := by decide +kernel
theorem dX5_fewest_6 : decode cX5_fewest 6 = .ok (.if_icmp .ge 5, 3) := by decide +kernel
theorem dX5_fewest_9 : decode cX5_fewest 9 = .ok (.iconst (-1), 1) := by decide +kernel
theorem dX5_fewest_10 : decode cX5_fewest 10 = .ok (.ireturn, 1) := by decide +kernel
theorem dX5_fewest_11 : decode cX5_fewest 11 = .ok (.iconst 1, 1) := by decide +kernel
theorem dX5_fewest_12 : decode cX5_fewest 12 = .ok (.aload_n 0, 1) := by decide +kernel
theorem dX5_fewest_13 : decode cX5_fewest 13 = .ok (.getfield 18, 3) := by decide +kernel
theorem dX5_fewest_16 : decode cX5_fewest 16 = .ok (.getfield 26, 3) := by decide +kernel
theorem dX5_fewest_19 : decode cX5_fewest 19 = .ok (.ishl, 1) := by decide +kernel
theorem dX5_fewest_20 : decode cX5_fewest 20 = .ok (.istore 4, 2) := by decide +kernel
theorem dX5_fewest_22 : decode cX5_fewest 22 = .ok (.iconst 0, 1) := by decide +kernel
theorem dX5_fewest_23 : decode cX5_fewest 23 = .ok (.istore 5, 2) := by decide +kernel
theorem dX5_fewest_25 : decode cX5_fewest 25 = .ok (.iload 5, 2) := by decide +kernel
theorem dX5_fewest_27 : decode cX5_fewest 27 = .ok (.aload_n 0, 1) := by decide +kernel
theorem dX5_fewest_28 : decode cX5_fewest 28 = .ok (.getfield 18, 3) := by decide +kernel
theorem dX5_fewest_31 : decode cX5_fewest 31 = .ok (.getfield 26, 3) := by decide +kernel
theorem dX5_fewest_34 : decode cX5_fewest 34 = .ok (.if_icmp .gt 50, 3) := by decide +kernel
theorem dX5_fewest_37 : decode cX5_fewest 37 = .ok (.iconst 0, 1) := by decide +kernel
theorem dX5_fewest_38 : decode cX5_fewest 38 = .ok (.istore 6, 2) := by decide +kernel
theorem dX5_fewest_40 : decode cX5_fewest 40 = .ok (.iload 6, 2) := by decide +kernel
theorem dX5_fewest_42 : decode cX5_fewest 42 = .ok (.iload 4, 2) := by decide +kernel
theorem dX5_fewest_44 : decode cX5_fewest 44 = .ok (.if_icmp .ge 34, 3) := by decide +kernel
theorem dX5_fewest_47 : decode cX5_fewest 47 = .ok (.iload 6, 2) := by decide +kernel
theorem dX5_fewest_49 : decode cX5_fewest 49 = .ok (.invokestatic 32, 3) := by decide +kernel
theorem dX5_fewest_52 : decode cX5_fewest 52 = .ok (.iload 5, 2) := by decide +kernel
theorem dX5_fewest_54 : decode cX5_fewest 54 = .ok (.if_icmp .ne 18, 3) := by decide +kernel
theorem dX5_fewest_57 : decode cX5_fewest 57 = .ok (.aload_n 0, 1) := by decide +kernel
theorem dX5_fewest_58 : decode cX5_fewest 58 = .ok (.iload 6, 2) := by decide +kernel
theorem dX5_fewest_60 : decode cX5_fewest 60 = .ok (.iload_n 1, 1) := by decide +kernel
theorem dX5_fewest_61 : decode cX5_fewest 61 = .ok (.iload_n 2, 1) := by decide +kernel
theorem dX5_fewest_62 : decode cX5_fewest 62 = .ok (.iload_n 3, 1) := by decide +kernel
theorem dX5_fewest_63 : decode cX5_fewest 63 = .ok (.invokevirtual 38, 3) := by decide +kernel
theorem dX5_fewest_66 : decode cX5_fewest 66 = .ok (.ifCond .eq 6, 3) := by decide +kernel
theorem dX5_fewest_69 : decode cX5_fewest 69 = .ok (.iload 6, 2) := by decide +kernel
theorem dX5_fewest_71 : decode cX5_fewest 71 = .ok (.ireturn, 1) := by decide +kernel
theorem dX5_fewest_72 : decode cX5_fewest 72 = .ok (.iinc 6 1, 3) := by decide +kernel
theorem dX5_fewest_75 : decode cX5_fewest 75 = .ok (.goto (-35), 3) := by decide +kernel
theorem dX5_fewest_78 : decode cX5_fewest 78 = .ok (.iinc 5 1, 3) := by decide +kernel
theorem dX5_fewest_81 : decode cX5_fewest 81 = .ok (.goto (-56), 3) := by decide +kernel
theorem dX5_fewest_84 : decode cX5_fewest 84 = .ok (.iconst (-1), 1) := by decide +kernel
theorem dX5_fewest_85 : decode cX5_fewest 85 = .ok (.ireturn, 1) := by decide +kernel
theorem dX5_isSafeWithout_0 : decode cX5_isSafeWithout 0 = .ok (.aload_n 0, 1) := by decide +kernel
theorem dX5_isSafeWithout_1 : decode cX5_isSafeWithout 1 = .ok (.dup, 1) := by decide +kernel
theorem dX5_isSafeWithout_2 : decode cX5_isSafeWithout 2 = .ok (.getfield 42, 3) := by decide +kernel
theorem dX5_isSafeWithout_5 : decode cX5_isSafeWithout 5 = .ok (.iconst 1, 1) := by decide +kernel
theorem dX5_isSafeWithout_6 : decode cX5_isSafeWithout 6 = .ok (.iadd, 1) := by decide +kernel
theorem dX5_isSafeWithout_7 : decode cX5_isSafeWithout 7 = .ok (.putfield 42, 3) := by decide +kernel
theorem dX5_isSafeWithout_10 : decode cX5_isSafeWithout 10 = .ok (.aload_n 0, 1) := by decide +kernel
theorem dX5_isSafeWithout_11 : decode cX5_isSafeWithout 11 = .ok (.getfield 15, 3) := by decide +kernel
theorem dX5_isSafeWithout_14 : decode cX5_isSafeWithout 14 = .ok (.iload_n 2, 1) := by decide +kernel
theorem dX5_isSafeWithout_15 : decode cX5_isSafeWithout 15 = .ok (.aload_n 0, 1) := by decide +kernel
theorem dX5_isSafeWithout_16 : decode cX5_isSafeWithout 16 = .ok (.getfield 42, 3) := by decide +kernel
theorem dX5_isSafeWithout_19 : decode cX5_isSafeWithout 19 = .ok (.invokestatic 45, 3) := by decide +kernel
theorem dX5_isSafeWithout_22 : decode cX5_isSafeWithout 22 = .ok (.aload_n 0, 1) := by decide +kernel
theorem dX5_isSafeWithout_23 : decode cX5_isSafeWithout 23 = .ok (.getfield 9, 3) := by decide +kernel
theorem dX5_isSafeWithout_26 : decode cX5_isSafeWithout 26 = .ok (.iconst 0, 1) := by decide +kernel
theorem dX5_isSafeWithout_27 : decode cX5_isSafeWithout 27 = .ok (.iload_n 2, 1) := by decide +kernel
theorem dX5_isSafeWithout_28 : decode cX5_isSafeWithout 28 = .ok (.invokestatic 45, 3) := by decide +kernel
theorem dX5_isSafeWithout_31 : decode cX5_isSafeWithout 31 = .ok (.iconst 1, 1) := by decide +kernel
theorem dX5_isSafeWithout_32 : decode cX5_isSafeWithout 32 = .ok (.istore 5, 2) := by decide +kernel
theorem dX5_isSafeWithout_34 : decode cX5_isSafeWithout 34 = .ok (.iconst 0, 1) := by decide +kernel
theorem dX5_isSafeWithout_35 : decode cX5_isSafeWithout 35 = .ok (.istore 6, 2) := by decide +kernel
theorem dX5_isSafeWithout_37 : decode cX5_isSafeWithout 37 = .ok (.iload 6, 2) := by decide +kernel
theorem dX5_isSafeWithout_39 : decode cX5_isSafeWithout 39 = .ok (.iload 5, 2) := by decide +kernel
theorem dX5_isSafeWithout_41 : decode cX5_isSafeWithout 41 = .ok (.if_icmp .ge 140, 3) := by decide +kernel
theorem dX5_isSafeWithout_44 : decode cX5_isSafeWithout 44 = .ok (.iload 6, 2) := by decide +kernel
theorem dX5_isSafeWithout_46 : decode cX5_isSafeWithout 46 = .ok (.sipush 512, 3) := by decide +kernel
theorem dX5_isSafeWithout_49 : decode cX5_isSafeWithout 49 = .ok (.if_icmp .ge 132, 3) := by decide +kernel
theorem dX5_isSafeWithout_52 : decode cX5_isSafeWithout 52 = .ok (.aload_n 0, 1) := by decide +kernel
theorem dX5_isSafeWithout_53 : decode cX5_isSafeWithout 53 = .ok (.getfield 9, 3) := by decide +kernel
theorem dX5_isSafeWithout_56 : decode cX5_isSafeWithout 56 = .ok (.iload 6, 2) := by decide +kernel
theorem dX5_isSafeWithout_58 : decode cX5_isSafeWithout 58 = .ok (.invokestatic 49, 3) := by decide +kernel
theorem dX5_isSafeWithout_61 : decode cX5_isSafeWithout 61 = .ok (.istore 7, 2) := by decide +kernel
theorem dX5_isSafeWithout_63 : decode cX5_isSafeWithout 63 = .ok (.iconst 0, 1) := by decide +kernel
theorem dX5_isSafeWithout_64 : decode cX5_isSafeWithout 64 = .ok (.istore 8, 2) := by decide +kernel
theorem dX5_isSafeWithout_66 : decode cX5_isSafeWithout 66 = .ok (.iload 8, 2) := by decide +kernel
theorem dX5_isSafeWithout_68 : decode cX5_isSafeWithout 68 = .ok (.aload_n 0, 1) := by decide +kernel
theorem dX5_isSafeWithout_69 : decode cX5_isSafeWithout 69 = .ok (.getfield 18, 3) := by decide +kernel
theorem dX5_isSafeWithout_72 : decode cX5_isSafeWithout 72 = .ok (.getfield 26, 3) := by decide +kernel
theorem dX5_isSafeWithout_75 : decode cX5_isSafeWithout 75 = .ok (.if_icmp .ge 100, 3) := by decide +kernel
theorem dX5_isSafeWithout_78 : decode cX5_isSafeWithout 78 = .ok (.iload_n 1, 1) := by decide +kernel
theorem dX5_isSafeWithout_79 : decode cX5_isSafeWithout 79 = .ok (.iload 8, 2) := by decide +kernel
theorem dX5_isSafeWithout_81 : decode cX5_isSafeWithout 81 = .ok (.ishr, 1) := by decide +kernel
theorem dX5_isSafeWithout_82 : decode cX5_isSafeWithout 82 = .ok (.iconst 1, 1) := by decide +kernel
theorem dX5_isSafeWithout_83 : decode cX5_isSafeWithout 83 = .ok (.iand, 1) := by decide +kernel
theorem dX5_isSafeWithout_84 : decode cX5_isSafeWithout 84 = .ok (.iconst 1, 1) := by decide +kernel
theorem dX5_isSafeWithout_85 : decode cX5_isSafeWithout 85 = .ok (.if_icmp .ne 7, 3) := by decide +kernel
theorem dX5_isSafeWithout_88 : decode cX5_isSafeWithout 88 = .ok (.iconst 1, 1) := by decide +kernel
theorem dX5_isSafeWithout_89 : decode cX5_isSafeWithout 89 = .ok (.goto 4, 3) := by decide +kernel
theorem dX5_isSafeWithout_92 : decode cX5_isSafeWithout 92 = .ok (.iconst 0, 1) := by decide +kernel
theorem dX5_isSafeWithout_93 : decode cX5_isSafeWithout 93 = .ok (.istore 9, 2) := by decide +kernel
theorem dX5_isSafeWithout_95 : decode cX5_isSafeWithout 95 = .ok (.aload_n 0, 1) := by decide +kernel
theorem dX5_isSafeWithout_96 : decode cX5_isSafeWithout 96 = .ok (.getfield 18, 3) := by decide +kernel
theorem dX5_isSafeWithout_99 : decode cX5_isSafeWithout 99 = .ok (.iload 8, 2) := by decide +kernel
theorem dX5_isSafeWithout_101 : decode cX5_isSafeWithout 101 = .ok (.iload 7, 2) := by decide +kernel
theorem dX5_isSafeWithout_103 : decode cX5_isSafeWithout 103 = .ok (.invokevirtual 53, 3) := by decide +kernel
theorem dX5_isSafeWithout_106 : decode cX5_isSafeWithout 106 = .ok (.istore 10, 2) := by decide +kernel
theorem dX5_isSafeWithout_108 : decode cX5_isSafeWithout 108 = .ok (.iload 9, 2) := by decide +kernel
theorem dX5_isSafeWithout_110 : decode cX5_isSafeWithout 110 = .ok (.ifCond .ne 59, 3) := by decide +kernel
theorem dX5_isSafeWithout_113 : decode cX5_isSafeWithout 113 = .ok (.aload_n 0, 1) := by decide +kernel
theorem dX5_isSafeWithout_114 : decode cX5_isSafeWithout 114 = .ok (.getfield 15, 3) := by decide +kernel
theorem dX5_isSafeWithout_117 : decode cX5_isSafeWithout 117 = .ok (.iload 10, 2) := by decide +kernel
theorem dX5_isSafeWithout_119 : decode cX5_isSafeWithout 119 = .ok (.invokestatic 49, 3) := by decide +kernel
theorem dX5_isSafeWithout_122 : decode cX5_isSafeWithout 122 = .ok (.aload_n 0, 1) := by decide +kernel
theorem dX5_isSafeWithout_123 : decode cX5_isSafeWithout 123 = .ok (.getfield 42, 3) := by decide +kernel
theorem dX5_isSafeWithout_126 : decode cX5_isSafeWithout 126 = .ok (.if_icmp .eq 43, 3) := by decide +kernel
theorem dX5_isSafeWithout_129 : decode cX5_isSafeWithout 129 = .ok (.iload 10, 2) := by decide +kernel
theorem dX5_isSafeWithout_131 : decode cX5_isSafeWithout 131 = .ok (.iload_n 3, 1) := by decide +kernel
theorem dX5_isSafeWithout_132 : decode cX5_isSafeWithout 132 = .ok (.invokestatic 22, 3) := by decide +kernel
theorem dX5_isSafeWithout_135 : decode cX5_isSafeWithout 135 = .ok (.iload 4, 2) := by decide +kernel
theorem dX5_isSafeWithout_137 : decode cX5_isSafeWithout 137 = .ok (.if_icmp .ge 5, 3) := by decide +kernel
theorem dX5_isSafeWithout_140 : decode cX5_isSafeWithout 140 = .ok (.iconst 0, 1) := by decide +kernel
theorem dX5_isSafeWithout_141 : decode cX5_isSafeWithout 141 = .ok (.ireturn, 1) := by decide +kernel
theorem dX5_isSafeWithout_142 : decode cX5_isSafeWithout 142 = .ok (.aload_n 0, 1) := by decide +kernel
theorem dX5_isSafeWithout_143 : decode cX5_isSafeWithout 143 = .ok (.getfield 15, 3) := by decide +kernel
theorem dX5_isSafeWithout_146 : decode cX5_isSafeWithout 146 = .ok (.iload 10, 2) := by decide +kernel
theorem dX5_isSafeWithout_148 : decode cX5_isSafeWithout 148 = .ok (.aload_n 0, 1) := by decide +kernel
theorem dX5_isSafeWithout_149 : decode cX5_isSafeWithout 149 = .ok (.getfield 42, 3) := by decide +kernel
theorem dX5_isSafeWithout_152 : decode cX5_isSafeWithout 152 = .ok (.invokestatic 45, 3) := by decide +kernel
theorem dX5_isSafeWithout_155 : decode cX5_isSafeWithout 155 = .ok (.aload_n 0, 1) := by decide +kernel
theorem dX5_isSafeWithout_156 : decode cX5_isSafeWithout 156 = .ok (.getfield 9, 3) := by decide +kernel
theorem dX5_isSafeWithout_159 : decode cX5_isSafeWithout 159 = .ok (.iload 5, 2) := by decide +kernel
theorem dX5_isSafeWithout_161 : decode cX5_isSafeWithout 161 = .ok (.iload 10, 2) := by decide +kernel
theorem dX5_isSafeWithout_163 : decode cX5_isSafeWithout 163 = .ok (.invokestatic 45, 3) := by decide +kernel
theorem dX5_isSafeWithout_166 : decode cX5_isSafeWithout 166 = .ok (.iinc 5 1, 3) := by decide +kernel
theorem dX5_isSafeWithout_169 : decode cX5_isSafeWithout 169 = .ok (.iinc 8 1, 3) := by decide +kernel
theorem dX5_isSafeWithout_172 : decode cX5_isSafeWithout 172 = .ok (.goto (-106), 3) := by decide +kernel
theorem dX5_isSafeWithout_175 : decode cX5_isSafeWithout 175 = .ok (.iinc 6 1, 3) := by decide +kernel
theorem dX5_isSafeWithout_178 : decode cX5_isSafeWithout 178 = .ok (.goto (-141), 3) := by decide +kernel
theorem dX5_isSafeWithout_181 : decode cX5_isSafeWithout 181 = .ok (.iconst 1, 1) := by decide +kernel
theorem dX5_isSafeWithout_182 : decode cX5_isSafeWithout 182 = .ok (.ireturn, 1) := by decide +kernel
theorem dX6_init_0 : decode cX6_init 0 = .ok (.aload_n 0, 1) := by decide +kernel
theorem dX6_init_1 : decode cX6_init 1 = .ok (.iload_n 1, 1) := by decide +kernel
theorem dX6_init_2 : decode cX6_init 2 = .ok (.iload_n 2, 1) := by decide +kernel
theorem dX6_init_3 : decode cX6_init 3 = .ok (.iload_n 3, 1) := by decide +kernel
theorem dX6_init_4 : decode cX6_init 4 = .ok (.invokespecial 3, 3) := by decide +kernel
theorem dX6_init_7 : decode cX6_init 7 = .ok (.return_, 1) := by decide +kernel
theorem dX6_kind_0 : decode cX6_kind 0 = .ok (.iconst 3, 1) := by decide +kernel
theorem dX6_kind_1 : decode cX6_kind 1 = .ok (.ireturn, 1) := by decide +kernel
theorem dX6_stateAfter_0 : decode cX6_stateAfter 0 = .ok (.aload_n 0, 1) := by decide +kernel
theorem dX6_stateAfter_1 : decode cX6_stateAfter 1 = .ok (.getfield 9, 3) := by decide +kernel
theorem dX6_stateAfter_4 : decode cX6_stateAfter 4 = .ok (.iconst 1, 1) := by decide +kernel
theorem dX6_stateAfter_5 : decode cX6_stateAfter 5 = .ok (.iadd, 1) := by decide +kernel
theorem dX6_stateAfter_6 : decode cX6_stateAfter 6 = .ok (.iconst 3, 1) := by decide +kernel
theorem dX6_stateAfter_7 : decode cX6_stateAfter 7 = .ok (.irem, 1) := by decide +kernel
theorem dX6_stateAfter_8 : decode cX6_stateAfter 8 = .ok (.istore_n 2, 1) := by decide +kernel
theorem dX6_stateAfter_9 : decode cX6_stateAfter 9 = .ok (.iload_n 1, 1) := by decide +kernel
theorem dX6_stateAfter_10 : decode cX6_stateAfter 10 = .ok (.aload_n 0, 1) := by decide +kernel
theorem dX6_stateAfter_11 : decode cX6_stateAfter 11 = .ok (.getfield 9, 3) := by decide +kernel
theorem dX6_stateAfter_14 : decode cX6_stateAfter 14 = .ok (.invokestatic 15, 3) := by decide +kernel
theorem dX6_stateAfter_17 : decode cX6_stateAfter 17 = .ok (.istore_n 3, 1) := by decide +kernel
theorem dX6_stateAfter_18 : decode cX6_stateAfter 18 = .ok (.iload_n 1, 1) := by decide +kernel
theorem dX6_stateAfter_19 : decode cX6_stateAfter 19 = .ok (.iload_n 2, 1) := by decide +kernel
theorem dX6_stateAfter_20 : decode cX6_stateAfter 20 = .ok (.invokestatic 15, 3) := by decide +kernel
theorem dX6_stateAfter_23 : decode cX6_stateAfter 23 = .ok (.istore 4, 2) := by decide +kernel
theorem dX6_stateAfter_25 : decode cX6_stateAfter 25 = .ok (.iload_n 1, 1) := by decide +kernel
theorem dX6_stateAfter_26 : decode cX6_stateAfter 26 = .ok (.iload 4, 2) := by decide +kernel
theorem dX6_stateAfter_28 : decode cX6_stateAfter 28 = .ok (.iload_n 3, 1) := by decide +kernel
theorem dX6_stateAfter_29 : decode cX6_stateAfter 29 = .ok (.isub, 1) := by decide +kernel
theorem dX6_stateAfter_30 : decode cX6_stateAfter 30 = .ok (.iconst 3, 1) := by decide +kernel
theorem dX6_stateAfter_31 : decode cX6_stateAfter 31 = .ok (.aload_n 0, 1) := by decide +kernel
theorem dX6_stateAfter_32 : decode cX6_stateAfter 32 = .ok (.getfield 9, 3) := by decide +kernel
theorem dX6_stateAfter_35 : decode cX6_stateAfter 35 = .ok (.imul, 1) := by decide +kernel
theorem dX6_stateAfter_36 : decode cX6_stateAfter 36 = .ok (.ishl, 1) := by decide +kernel
theorem dX6_stateAfter_37 : decode cX6_stateAfter 37 = .ok (.iadd, 1) := by decide +kernel
theorem dX6_stateAfter_38 : decode cX6_stateAfter 38 = .ok (.iload_n 3, 1) := by decide +kernel
theorem dX6_stateAfter_39 : decode cX6_stateAfter 39 = .ok (.iload 4, 2) := by decide +kernel
theorem dX6_stateAfter_41 : decode cX6_stateAfter 41 = .ok (.isub, 1) := by decide +kernel
theorem dX6_stateAfter_42 : decode cX6_stateAfter 42 = .ok (.iconst 3, 1) := by decide +kernel
theorem dX6_stateAfter_43 : decode cX6_stateAfter 43 = .ok (.iload_n 2, 1) := by decide +kernel
theorem dX6_stateAfter_44 : decode cX6_stateAfter 44 = .ok (.imul, 1) := by decide +kernel
theorem dX6_stateAfter_45 : decode cX6_stateAfter 45 = .ok (.ishl, 1) := by decide +kernel
theorem dX6_stateAfter_46 : decode cX6_stateAfter 46 = .ok (.iadd, 1) := by decide +kernel
theorem dX6_stateAfter_47 : decode cX6_stateAfter 47 = .ok (.ireturn, 1) := by decide +kernel
theorem dX7_init_0 : decode cX7_init 0 = .ok (.aload_n 0, 1) := by decide +kernel
theorem dX7_init_1 : decode cX7_init 1 = .ok (.invokespecial 3, 3) := by decide +kernel
theorem dX7_init_4 : decode cX7_init 4 = .ok (.aload_n 0, 1) := by decide +kernel
theorem dX7_init_5 : decode cX7_init 5 = .ok (.iconst 4, 1) := by decide +kernel
theorem dX7_init_6 : decode cX7_init 6 = .ok (.newarray .int, 2) := by decide +kernel
theorem dX7_init_8 : decode cX7_init 8 = .ok (.putfield 9, 3) := by decide +kernel
theorem dX7_init_11 : decode cX7_init 11 = .ok (.aload_n 0, 1) := by decide +kernel
theorem dX7_init_12 : decode cX7_init 12 = .ok (.iconst 4, 1) := by decide +kernel
theorem dX7_init_13 : decode cX7_init 13 = .ok (.newarray .int, 2) := by decide +kernel
theorem dX7_init_15 : decode cX7_init 15 = .ok (.putfield 15, 3) := by decide +kernel
theorem dX7_init_18 : decode cX7_init 18 = .ok (.aload_n 0, 1) := by decide +kernel
theorem dX7_init_19 : decode cX7_init 19 = .ok (.iconst 4, 1) := by decide +kernel
theorem dX7_init_20 : decode cX7_init 20 = .ok (.newarray .int, 2) := by decide +kernel
theorem dX7_init_22 : decode cX7_init 22 = .ok (.putfield 18, 3) := by decide +kernel
theorem dX7_init_25 : decode cX7_init 25 = .ok (.aload_n 0, 1) := by decide +kernel
theorem dX7_init_26 : decode cX7_init 26 = .ok (.iconst 4, 1) := by decide +kernel
theorem dX7_init_27 : decode cX7_init 27 = .ok (.newarray .int, 2) := by decide +kernel
theorem dX7_init_29 : decode cX7_init 29 = .ok (.putfield 21, 3) := by decide +kernel
theorem dX7_init_32 : decode cX7_init 32 = .ok (.aload_n 0, 1) := by decide +kernel
theorem dX7_init_33 : decode cX7_init 33 = .ok (.iconst 4, 1) := by decide +kernel
theorem dX7_init_34 : decode cX7_init 34 = .ok (.newarray .int, 2) := by decide +kernel
theorem dX7_init_36 : decode cX7_init 36 = .ok (.putfield 24, 3) := by decide +kernel
theorem dX7_init_39 : decode cX7_init 39 = .ok (.return_, 1) := by decide +kernel
theorem dX7_empty_0 : decode cX7_empty 0 = .ok (.aload_n 0, 1) := by decide +kernel
theorem dX7_empty_1 : decode cX7_empty 1 = .ok (.iconst 0, 1) := by decide +kernel
theorem dX7_empty_2 : decode cX7_empty 2 = .ok (.putfield 27, 3) := by decide +kernel
theorem dX7_empty_5 : decode cX7_empty 5 = .ok (.aload_n 0, 1) := by decide +kernel
theorem dX7_empty_6 : decode cX7_empty 6 = .ok (.iconst 0, 1) := by decide +kernel
theorem dX7_empty_7 : decode cX7_empty 7 = .ok (.putfield 31, 3) := by decide +kernel
theorem dX7_empty_10 : decode cX7_empty 10 = .ok (.return_, 1) := by decide +kernel
theorem dX7_copyFrom_0 : decode cX7_copyFrom 0 = .ok (.aload_n 0, 1) := by decide +kernel
theorem dX7_copyFrom_1 : decode cX7_copyFrom 1 = .ok (.aload_n 1, 1) := by decide +kernel
theorem dX7_copyFrom_2 : decode cX7_copyFrom 2 = .ok (.getfield 27, 3) := by decide +kernel
theorem dX7_copyFrom_5 : decode cX7_copyFrom 5 = .ok (.putfield 27, 3) := by decide +kernel
theorem dX7_copyFrom_8 : decode cX7_copyFrom 8 = .ok (.aload_n 0, 1) := by decide +kernel
theorem dX7_copyFrom_9 : decode cX7_copyFrom 9 = .ok (.aload_n 1, 1) := by decide +kernel
theorem dX7_copyFrom_10 : decode cX7_copyFrom 10 = .ok (.getfield 31, 3) := by decide +kernel
theorem dX7_copyFrom_13 : decode cX7_copyFrom 13 = .ok (.putfield 31, 3) := by decide +kernel
theorem dX7_copyFrom_16 : decode cX7_copyFrom 16 = .ok (.iconst 0, 1) := by decide +kernel
theorem dX7_copyFrom_17 : decode cX7_copyFrom 17 = .ok (.istore_n 2, 1) := by decide +kernel
theorem dX7_copyFrom_18 : decode cX7_copyFrom 18 = .ok (.iload_n 2, 1) := by decide +kernel
theorem dX7_copyFrom_19 : decode cX7_copyFrom 19 = .ok (.iconst 4, 1) := by decide +kernel
theorem dX7_copyFrom_20 : decode cX7_copyFrom 20 = .ok (.if_icmp .ge 73, 3) := by decide +kernel
theorem dX7_copyFrom_23 : decode cX7_copyFrom 23 = .ok (.aload_n 0, 1) := by decide +kernel
theorem dX7_copyFrom_24 : decode cX7_copyFrom 24 = .ok (.getfield 9, 3) := by decide +kernel
theorem dX7_copyFrom_27 : decode cX7_copyFrom 27 = .ok (.iload_n 2, 1) := by decide +kernel
theorem dX7_copyFrom_28 : decode cX7_copyFrom 28 = .ok (.aload_n 1, 1) := by decide +kernel
theorem dX7_copyFrom_29 : decode cX7_copyFrom 29 = .ok (.getfield 9, 3) := by decide +kernel
theorem dX7_copyFrom_32 : decode cX7_copyFrom 32 = .ok (.iload_n 2, 1) := by decide +kernel
theorem dX7_copyFrom_33 : decode cX7_copyFrom 33 = .ok (.invokestatic 34, 3) := by decide +kernel
theorem dX7_copyFrom_36 : decode cX7_copyFrom 36 = .ok (.invokestatic 38, 3) := by decide +kernel
theorem dX7_copyFrom_39 : decode cX7_copyFrom 39 = .ok (.aload_n 0, 1) := by decide +kernel
theorem dX7_copyFrom_40 : decode cX7_copyFrom 40 = .ok (.getfield 15, 3) := by decide +kernel
theorem dX7_copyFrom_43 : decode cX7_copyFrom 43 = .ok (.iload_n 2, 1) := by decide +kernel
theorem dX7_copyFrom_44 : decode cX7_copyFrom 44 = .ok (.aload_n 1, 1) := by decide +kernel
theorem dX7_copyFrom_45 : decode cX7_copyFrom 45 = .ok (.getfield 15, 3) := by decide +kernel
theorem dX7_copyFrom_48 : decode cX7_copyFrom 48 = .ok (.iload_n 2, 1) := by decide +kernel
theorem dX7_copyFrom_49 : decode cX7_copyFrom 49 = .ok (.invokestatic 34, 3) := by decide +kernel
theorem dX7_copyFrom_52 : decode cX7_copyFrom 52 = .ok (.invokestatic 38, 3) := by decide +kernel
theorem dX7_copyFrom_55 : decode cX7_copyFrom 55 = .ok (.aload_n 0, 1) := by decide +kernel
theorem dX7_copyFrom_56 : decode cX7_copyFrom 56 = .ok (.getfield 18, 3) := by decide +kernel
theorem dX7_copyFrom_59 : decode cX7_copyFrom 59 = .ok (.iload_n 2, 1) := by decide +kernel
theorem dX7_copyFrom_60 : decode cX7_copyFrom 60 = .ok (.aload_n 1, 1) := by decide +kernel
theorem dX7_copyFrom_61 : decode cX7_copyFrom 61 = .ok (.getfield 18, 3) := by decide +kernel
theorem dX7_copyFrom_64 : decode cX7_copyFrom 64 = .ok (.iload_n 2, 1) := by decide +kernel
theorem dX7_copyFrom_65 : decode cX7_copyFrom 65 = .ok (.invokestatic 34, 3) := by decide +kernel
theorem dX7_copyFrom_68 : decode cX7_copyFrom 68 = .ok (.invokestatic 38, 3) := by decide +kernel
theorem dX7_copyFrom_71 : decode cX7_copyFrom 71 = .ok (.aload_n 0, 1) := by decide +kernel
theorem dX7_copyFrom_72 : decode cX7_copyFrom 72 = .ok (.getfield 21, 3) := by decide +kernel
theorem dX7_copyFrom_75 : decode cX7_copyFrom 75 = .ok (.iload_n 2, 1) := by decide +kernel
theorem dX7_copyFrom_76 : decode cX7_copyFrom 76 = .ok (.aload_n 1, 1) := by decide +kernel
theorem dX7_copyFrom_77 : decode cX7_copyFrom 77 = .ok (.getfield 21, 3) := by decide +kernel
theorem dX7_copyFrom_80 : decode cX7_copyFrom 80 = .ok (.iload_n 2, 1) := by decide +kernel
theorem dX7_copyFrom_81 : decode cX7_copyFrom 81 = .ok (.invokestatic 34, 3) := by decide +kernel
theorem dX7_copyFrom_84 : decode cX7_copyFrom 84 = .ok (.invokestatic 38, 3) := by decide +kernel
theorem dX7_copyFrom_87 : decode cX7_copyFrom 87 = .ok (.iinc 2 1, 3) := by decide +kernel
theorem dX7_copyFrom_90 : decode cX7_copyFrom 90 = .ok (.goto (-72), 3) := by decide +kernel
theorem dX7_copyFrom_93 : decode cX7_copyFrom 93 = .ok (.return_, 1) := by decide +kernel
theorem dX7_has_0 : decode cX7_has 0 = .ok (.iload_n 1, 1) := by decide +kernel
theorem dX7_has_1 : decode cX7_has 1 = .ok (.ifCond .lt 15, 3) := by decide +kernel
theorem dX7_has_4 : decode cX7_has 4 = .ok (.iload_n 1, 1) := by decide +kernel
theorem dX7_has_5 : decode cX7_has 5 = .ok (.aload_n 0, 1) := by decide +kernel
theorem dX7_has_6 : decode cX7_has 6 = .ok (.getfield 27, 3) := by decide +kernel
theorem dX7_has_9 : decode cX7_has 9 = .ok (.if_icmp .ge 7, 3) := by decide +kernel
theorem dX7_has_12 : decode cX7_has 12 = .ok (.iconst 1, 1) := by decide +kernel
theorem dX7_has_13 : decode cX7_has 13 = .ok (.goto 4, 3) := by decide +kernel
theorem dX7_has_16 : decode cX7_has 16 = .ok (.iconst 0, 1) := by decide +kernel
theorem dX7_has_17 : decode cX7_has 17 = .ok (.ireturn, 1) := by decide +kernel
theorem dX7_stateOf_0 : decode cX7_stateOf 0 = .ok (.aload_n 0, 1) := by decide +kernel
theorem dX7_stateOf_1 : decode cX7_stateOf 1 = .ok (.getfield 9, 3) := by decide +kernel
theorem dX7_stateOf_4 : decode cX7_stateOf 4 = .ok (.iload_n 1, 1) := by decide +kernel
theorem dX7_stateOf_5 : decode cX7_stateOf 5 = .ok (.invokestatic 34, 3) := by decide +kernel
theorem dX7_stateOf_8 : decode cX7_stateOf 8 = .ok (.ireturn, 1) := by decide +kernel
theorem dX7_holderOf_0 : decode cX7_holderOf 0 = .ok (.aload_n 0, 1) := by decide +kernel
theorem dX7_holderOf_1 : decode cX7_holderOf 1 = .ok (.getfield 15, 3) := by decide +kernel
theorem dX7_holderOf_4 : decode cX7_holderOf 4 = .ok (.iload_n 1, 1) := by decide +kernel
theorem dX7_holderOf_5 : decode cX7_holderOf 5 = .ok (.invokestatic 34, 3) := by decide +kernel
theorem dX7_holderOf_8 : decode cX7_holderOf 8 = .ok (.ireturn, 1) := by decide +kernel
theorem dX7_returnsOf_0 : decode cX7_returnsOf 0 = .ok (.aload_n 0, 1) := by decide +kernel
theorem dX7_returnsOf_1 : decode cX7_returnsOf 1 = .ok (.getfield 21, 3) := by decide +kernel
theorem dX7_returnsOf_4 : decode cX7_returnsOf 4 = .ok (.iload_n 1, 1) := by decide +kernel
theorem dX7_returnsOf_5 : decode cX7_returnsOf 5 = .ok (.invokestatic 34, 3) := by decide +kernel
theorem dX7_returnsOf_8 : decode cX7_returnsOf 8 = .ok (.ireturn, 1) := by decide +kernel
theorem dX7_isLent_0 : decode cX7_isLent 0 = .ok (.aload_n 0, 1) := by decide +kernel
theorem dX7_isLent_1 : decode cX7_isLent 1 = .ok (.getfield 15, 3) := by decide +kernel
theorem dX7_isLent_4 : decode cX7_isLent 4 = .ok (.iload_n 1, 1) := by decide +kernel
theorem dX7_isLent_5 : decode cX7_isLent 5 = .ok (.invokestatic 34, 3) := by decide +kernel
theorem dX7_isLent_8 : decode cX7_isLent 8 = .ok (.iconst (-1), 1) := by decide +kernel
theorem dX7_isLent_9 : decode cX7_isLent 9 = .ok (.if_icmp .eq 7, 3) := by decide +kernel
theorem dX7_isLent_12 : decode cX7_isLent 12 = .ok (.iconst 1, 1) := by decide +kernel
theorem dX7_isLent_13 : decode cX7_isLent 13 = .ok (.goto 4, 3) := by decide +kernel
theorem dX7_isLent_16 : decode cX7_isLent 16 = .ok (.iconst 0, 1) := by decide +kernel
theorem dX7_isLent_17 : decode cX7_isLent 17 = .ok (.ireturn, 1) := by decide +kernel
theorem dX7_stateAtHome_0 : decode cX7_stateAtHome 0 = .ok (.aload_n 0, 1) := by decide +kernel
theorem dX7_stateAtHome_1 : decode cX7_stateAtHome 1 = .ok (.getfield 9, 3) := by decide +kernel
theorem dX7_stateAtHome_4 : decode cX7_stateAtHome 4 = .ok (.iload_n 1, 1) := by decide +kernel
theorem dX7_stateAtHome_5 : decode cX7_stateAtHome 5 = .ok (.invokestatic 34, 3) := by decide +kernel
theorem dX7_stateAtHome_8 : decode cX7_stateAtHome 8 = .ok (.istore_n 3, 1) := by decide +kernel
theorem dX7_stateAtHome_9 : decode cX7_stateAtHome 9 = .ok (.aload_n 0, 1) := by decide +kernel
theorem dX7_stateAtHome_10 : decode cX7_stateAtHome 10 = .ok (.iload_n 1, 1) := by decide +kernel
theorem dX7_stateAtHome_11 : decode cX7_stateAtHome 11 = .ok (.invokevirtual 42, 3) := by decide +kernel
theorem dX7_stateAtHome_14 : decode cX7_stateAtHome 14 = .ok (.ifCond .eq 19, 3) := by decide +kernel
theorem dX7_stateAtHome_17 : decode cX7_stateAtHome 17 = .ok (.aload_n 2, 1) := by decide +kernel
theorem dX7_stateAtHome_18 : decode cX7_stateAtHome 18 = .ok (.aload_n 0, 1) := by decide +kernel
theorem dX7_stateAtHome_19 : decode cX7_stateAtHome 19 = .ok (.getfield 15, 3) := by decide +kernel
theorem dX7_stateAtHome_22 : decode cX7_stateAtHome 22 = .ok (.iload_n 1, 1) := by decide +kernel
theorem dX7_stateAtHome_23 : decode cX7_stateAtHome 23 = .ok (.invokestatic 34, 3) := by decide +kernel
theorem dX7_stateAtHome_26 : decode cX7_stateAtHome 26 = .ok (.iload_n 3, 1) := by decide +kernel
theorem dX7_stateAtHome_27 : decode cX7_stateAtHome 27 = .ok (.invokevirtual 46, 3) := by decide +kernel
theorem dX7_stateAtHome_30 : decode cX7_stateAtHome 30 = .ok (.goto 4, 3) := by decide +kernel
theorem dX7_stateAtHome_33 : decode cX7_stateAtHome 33 = .ok (.iload_n 3, 1) := by decide +kernel
theorem dX7_stateAtHome_34 : decode cX7_stateAtHome 34 = .ok (.ireturn, 1) := by decide +kernel
theorem dX7_add_0 : decode cX7_add 0 = .ok (.aload_n 0, 1) := by decide +kernel
theorem dX7_add_1 : decode cX7_add 1 = .ok (.getfield 27, 3) := by decide +kernel
theorem dX7_add_4 : decode cX7_add 4 = .ok (.istore_n 2, 1) := by decide +kernel
theorem dX7_add_5 : decode cX7_add 5 = .ok (.aload_n 0, 1) := by decide +kernel
theorem dX7_add_6 : decode cX7_add 6 = .ok (.getfield 9, 3) := by decide +kernel
theorem dX7_add_9 : decode cX7_add 9 = .ok (.iload_n 2, 1) := by decide +kernel
theorem dX7_add_10 : decode cX7_add 10 = .ok (.iload_n 1, 1) := by decide +kernel
theorem dX7_add_11 : decode cX7_add 11 = .ok (.invokestatic 38, 3) := by decide +kernel
theorem dX7_add_14 : decode cX7_add 14 = .ok (.aload_n 0, 1) := by decide +kernel
theorem dX7_add_15 : decode cX7_add 15 = .ok (.getfield 15, 3) := by decide +kernel
theorem dX7_add_18 : decode cX7_add 18 = .ok (.iload_n 2, 1) := by decide +kernel
theorem dX7_add_19 : decode cX7_add 19 = .ok (.iconst (-1), 1) := by decide +kernel
theorem dX7_add_20 : decode cX7_add 20 = .ok (.invokestatic 38, 3) := by decide +kernel
theorem dX7_add_23 : decode cX7_add 23 = .ok (.aload_n 0, 1) := by decide +kernel
theorem dX7_add_24 : decode cX7_add 24 = .ok (.getfield 18, 3) := by decide +kernel
theorem dX7_add_27 : decode cX7_add 27 = .ok (.iload_n 2, 1) := by decide +kernel
theorem dX7_add_28 : decode cX7_add 28 = .ok (.iconst 0, 1) := by decide +kernel
theorem dX7_add_29 : decode cX7_add 29 = .ok (.invokestatic 38, 3) := by decide +kernel
theorem dX7_add_32 : decode cX7_add 32 = .ok (.aload_n 0, 1) := by decide +kernel
theorem dX7_add_33 : decode cX7_add 33 = .ok (.getfield 21, 3) := by decide +kernel
theorem dX7_add_36 : decode cX7_add 36 = .ok (.iload_n 2, 1) := by decide +kernel
theorem dX7_add_37 : decode cX7_add 37 = .ok (.iconst 0, 1) := by decide +kernel
theorem dX7_add_38 : decode cX7_add 38 = .ok (.invokestatic 38, 3) := by decide +kernel
theorem dX7_add_41 : decode cX7_add 41 = .ok (.aload_n 0, 1) := by decide +kernel
theorem dX7_add_42 : decode cX7_add 42 = .ok (.dup, 1) := by decide +kernel
theorem dX7_add_43 : decode cX7_add 43 = .ok (.getfield 27, 3) := by decide +kernel
theorem dX7_add_46 : decode cX7_add 46 = .ok (.iconst 1, 1) := by decide +kernel
theorem dX7_add_47 : decode cX7_add 47 = .ok (.iadd, 1) := by decide +kernel
theorem dX7_add_48 : decode cX7_add 48 = .ok (.putfield 27, 3) := by decide +kernel
theorem dX7_add_51 : decode cX7_add 51 = .ok (.iload_n 2, 1) := by decide +kernel
theorem dX7_add_52 : decode cX7_add 52 = .ok (.ireturn, 1) := by decide +kernel
theorem dX7_give_0 : decode cX7_give 0 = .ok (.aload_n 0, 1) := by decide +kernel
theorem dX7_give_1 : decode cX7_give 1 = .ok (.getfield 15, 3) := by decide +kernel
theorem dX7_give_4 : decode cX7_give 4 = .ok (.iload_n 1, 1) := by decide +kernel
theorem dX7_give_5 : decode cX7_give 5 = .ok (.iload_n 2, 1) := by decide +kernel
theorem dX7_give_6 : decode cX7_give 6 = .ok (.invokestatic 38, 3) := by decide +kernel
theorem dX7_give_9 : decode cX7_give 9 = .ok (.aload_n 0, 1) := by decide +kernel
theorem dX7_give_10 : decode cX7_give 10 = .ok (.getfield 18, 3) := by decide +kernel
theorem dX7_give_13 : decode cX7_give 13 = .ok (.iload_n 1, 1) := by decide +kernel
theorem dX7_give_14 : decode cX7_give 14 = .ok (.iload_n 3, 1) := by decide +kernel
theorem dX7_give_15 : decode cX7_give 15 = .ok (.invokestatic 38, 3) := by decide +kernel
theorem dX7_give_18 : decode cX7_give 18 = .ok (.return_, 1) := by decide +kernel
theorem dX7_numberHeldBy_0 : decode cX7_numberHeldBy 0 = .ok (.iconst 0, 1) := by decide +kernel
theorem dX7_numberHeldBy_1 : decode cX7_numberHeldBy 1 = .ok (.istore_n 2, 1) := by decide +kernel
theorem dX7_numberHeldBy_2 : decode cX7_numberHeldBy 2 = .ok (.iload_n 2, 1) := by decide +kernel
theorem dX7_numberHeldBy_3 : decode cX7_numberHeldBy 3 = .ok (.aload_n 0, 1) := by decide +kernel
theorem dX7_numberHeldBy_4 : decode cX7_numberHeldBy 4 = .ok (.getfield 27, 3) := by decide +kernel
theorem dX7_numberHeldBy_7 : decode cX7_numberHeldBy 7 = .ok (.if_icmp .ge 23, 3) := by decide +kernel
theorem dX7_numberHeldBy_10 : decode cX7_numberHeldBy 10 = .ok (.aload_n 0, 1) := by decide +kernel
theorem dX7_numberHeldBy_11 : decode cX7_numberHeldBy 11 = .ok (.getfield 15, 3) := by decide +kernel
theorem dX7_numberHeldBy_14 : decode cX7_numberHeldBy 14 = .ok (.iload_n 2, 1) := by decide +kernel
theorem dX7_numberHeldBy_15 : decode cX7_numberHeldBy 15 = .ok (.invokestatic 34, 3) := by decide +kernel
theorem dX7_numberHeldBy_18 : decode cX7_numberHeldBy 18 = .ok (.iload_n 1, 1) := by decide +kernel
theorem dX7_numberHeldBy_19 : decode cX7_numberHeldBy 19 = .ok (.if_icmp .ne 5, 3) := by decide +kernel
theorem dX7_numberHeldBy_22 : decode cX7_numberHeldBy 22 = .ok (.iload_n 2, 1) := by decide +kernel
theorem dX7_numberHeldBy_23 : decode cX7_numberHeldBy 23 = .ok (.ireturn, 1) := by decide +kernel
theorem dX7_numberHeldBy_24 : decode cX7_numberHeldBy 24 = .ok (.iinc 2 1, 3) := by decide +kernel
theorem dX7_numberHeldBy_27 : decode cX7_numberHeldBy 27 = .ok (.goto (-25), 3) := by decide +kernel
theorem dX7_numberHeldBy_30 : decode cX7_numberHeldBy 30 = .ok (.iconst (-1), 1) := by decide +kernel
theorem dX7_numberHeldBy_31 : decode cX7_numberHeldBy 31 = .ok (.ireturn, 1) := by decide +kernel
theorem dX7_daysLeftAt_0 : decode cX7_daysLeftAt 0 = .ok (.aload_n 0, 1) := by decide +kernel
theorem dX7_daysLeftAt_1 : decode cX7_daysLeftAt 1 = .ok (.iload_n 1, 1) := by decide +kernel
theorem dX7_daysLeftAt_2 : decode cX7_daysLeftAt 2 = .ok (.invokevirtual 52, 3) := by decide +kernel
theorem dX7_daysLeftAt_5 : decode cX7_daysLeftAt 5 = .ok (.istore_n 2, 1) := by decide +kernel
theorem dX7_daysLeftAt_6 : decode cX7_daysLeftAt 6 = .ok (.iload_n 2, 1) := by decide +kernel
theorem dX7_daysLeftAt_7 : decode cX7_daysLeftAt 7 = .ok (.iconst (-1), 1) := by decide +kernel
theorem dX7_daysLeftAt_8 : decode cX7_daysLeftAt 8 = .ok (.if_icmp .ne 7, 3) := by decide +kernel
theorem dX7_daysLeftAt_11 : decode cX7_daysLeftAt 11 = .ok (.iconst 0, 1) := by decide +kernel
theorem dX7_daysLeftAt_12 : decode cX7_daysLeftAt 12 = .ok (.goto 11, 3) := by decide +kernel
theorem dX7_daysLeftAt_15 : decode cX7_daysLeftAt 15 = .ok (.aload_n 0, 1) := by decide +kernel
theorem dX7_daysLeftAt_16 : decode cX7_daysLeftAt 16 = .ok (.getfield 18, 3) := by decide +kernel
theorem dX7_daysLeftAt_19 : decode cX7_daysLeftAt 19 = .ok (.iload_n 2, 1) := by decide +kernel
theorem dX7_daysLeftAt_20 : decode cX7_daysLeftAt 20 = .ok (.invokestatic 34, 3) := by decide +kernel
theorem dX7_daysLeftAt_23 : decode cX7_daysLeftAt 23 = .ok (.ireturn, 1) := by decide +kernel
theorem dX7_passDay_0 : decode cX7_passDay 0 = .ok (.aload_n 0, 1) := by decide +kernel
theorem dX7_passDay_1 : decode cX7_passDay 1 = .ok (.dup, 1) := by decide +kernel
theorem dX7_passDay_2 : decode cX7_passDay 2 = .ok (.getfield 31, 3) := by decide +kernel
theorem dX7_passDay_5 : decode cX7_passDay 5 = .ok (.iconst 1, 1) := by decide +kernel
theorem dX7_passDay_6 : decode cX7_passDay 6 = .ok (.iadd, 1) := by decide +kernel
theorem dX7_passDay_7 : decode cX7_passDay 7 = .ok (.putfield 31, 3) := by decide +kernel
theorem dX7_passDay_10 : decode cX7_passDay 10 = .ok (.iconst 0, 1) := by decide +kernel
theorem dX7_passDay_11 : decode cX7_passDay 11 = .ok (.istore_n 2, 1) := by decide +kernel
theorem dX7_passDay_12 : decode cX7_passDay 12 = .ok (.iconst 0, 1) := by decide +kernel
theorem dX7_passDay_13 : decode cX7_passDay 13 = .ok (.istore_n 3, 1) := by decide +kernel
theorem dX7_passDay_14 : decode cX7_passDay 14 = .ok (.iload_n 3, 1) := by decide +kernel
theorem dX7_passDay_15 : decode cX7_passDay 15 = .ok (.aload_n 0, 1) := by decide +kernel
theorem dX7_passDay_16 : decode cX7_passDay 16 = .ok (.getfield 27, 3) := by decide +kernel
theorem dX7_passDay_19 : decode cX7_passDay 19 = .ok (.if_icmp .ge 55, 3) := by decide +kernel
theorem dX7_passDay_22 : decode cX7_passDay 22 = .ok (.aload_n 0, 1) := by decide +kernel
theorem dX7_passDay_23 : decode cX7_passDay 23 = .ok (.iload_n 3, 1) := by decide +kernel
theorem dX7_passDay_24 : decode cX7_passDay 24 = .ok (.invokevirtual 42, 3) := by decide +kernel
theorem dX7_passDay_27 : decode cX7_passDay 27 = .ok (.ifCond .eq 41, 3) := by decide +kernel
theorem dX7_passDay_30 : decode cX7_passDay 30 = .ok (.aload_n 0, 1) := by decide +kernel
theorem dX7_passDay_31 : decode cX7_passDay 31 = .ok (.getfield 18, 3) := by decide +kernel
theorem dX7_passDay_34 : decode cX7_passDay 34 = .ok (.iload_n 3, 1) := by decide +kernel
theorem dX7_passDay_35 : decode cX7_passDay 35 = .ok (.aload_n 0, 1) := by decide +kernel
theorem dX7_passDay_36 : decode cX7_passDay 36 = .ok (.getfield 18, 3) := by decide +kernel
theorem dX7_passDay_39 : decode cX7_passDay 39 = .ok (.iload_n 3, 1) := by decide +kernel
theorem dX7_passDay_40 : decode cX7_passDay 40 = .ok (.invokestatic 34, 3) := by decide +kernel
theorem dX7_passDay_43 : decode cX7_passDay 43 = .ok (.iconst 1, 1) := by decide +kernel
theorem dX7_passDay_44 : decode cX7_passDay 44 = .ok (.isub, 1) := by decide +kernel
theorem dX7_passDay_45 : decode cX7_passDay 45 = .ok (.invokestatic 38, 3) := by decide +kernel
theorem dX7_passDay_48 : decode cX7_passDay 48 = .ok (.aload_n 0, 1) := by decide +kernel
theorem dX7_passDay_49 : decode cX7_passDay 49 = .ok (.getfield 18, 3) := by decide +kernel
theorem dX7_passDay_52 : decode cX7_passDay 52 = .ok (.iload_n 3, 1) := by decide +kernel
theorem dX7_passDay_53 : decode cX7_passDay 53 = .ok (.invokestatic 34, 3) := by decide +kernel
theorem dX7_passDay_56 : decode cX7_passDay 56 = .ok (.ifCond .ne 12, 3) := by decide +kernel
theorem dX7_passDay_59 : decode cX7_passDay 59 = .ok (.aload_n 0, 1) := by decide +kernel
theorem dX7_passDay_60 : decode cX7_passDay 60 = .ok (.iload_n 3, 1) := by decide +kernel
theorem dX7_passDay_61 : decode cX7_passDay 61 = .ok (.aload_n 1, 1) := by decide +kernel
theorem dX7_passDay_62 : decode cX7_passDay 62 = .ok (.invokevirtual 56, 3) := by decide +kernel
theorem dX7_passDay_65 : decode cX7_passDay 65 = .ok (.iinc 2 1, 3) := by decide +kernel
theorem dX7_passDay_68 : decode cX7_passDay 68 = .ok (.iinc 3 1, 3) := by decide +kernel
theorem dX7_passDay_71 : decode cX7_passDay 71 = .ok (.goto (-57), 3) := by decide +kernel
theorem dX7_passDay_74 : decode cX7_passDay 74 = .ok (.iload_n 2, 1) := by decide +kernel
theorem dX7_passDay_75 : decode cX7_passDay 75 = .ok (.ireturn, 1) := by decide +kernel
theorem dX7_howManyLent_0 : decode cX7_howManyLent 0 = .ok (.iconst 0, 1) := by decide +kernel
theorem dX7_howManyLent_1 : decode cX7_howManyLent 1 = .ok (.istore_n 1, 1) := by decide +kernel
theorem dX7_howManyLent_2 : decode cX7_howManyLent 2 = .ok (.iconst 0, 1) := by decide +kernel
theorem dX7_howManyLent_3 : decode cX7_howManyLent 3 = .ok (.istore_n 2, 1) := by decide +kernel
theorem dX7_howManyLent_4 : decode cX7_howManyLent 4 = .ok (.iload_n 2, 1) := by decide +kernel
theorem dX7_howManyLent_5 : decode cX7_howManyLent 5 = .ok (.aload_n 0, 1) := by decide +kernel
theorem dX7_howManyLent_6 : decode cX7_howManyLent 6 = .ok (.getfield 27, 3) := by decide +kernel
theorem dX7_howManyLent_9 : decode cX7_howManyLent 9 = .ok (.if_icmp .ge 20, 3) := by decide +kernel
theorem dX7_howManyLent_12 : decode cX7_howManyLent 12 = .ok (.aload_n 0, 1) := by decide +kernel
theorem dX7_howManyLent_13 : decode cX7_howManyLent 13 = .ok (.iload_n 2, 1) := by decide +kernel
theorem dX7_howManyLent_14 : decode cX7_howManyLent 14 = .ok (.invokevirtual 42, 3) := by decide +kernel
theorem dX7_howManyLent_17 : decode cX7_howManyLent 17 = .ok (.ifCond .eq 6, 3) := by decide +kernel
theorem dX7_howManyLent_20 : decode cX7_howManyLent 20 = .ok (.iinc 1 1, 3) := by decide +kernel
theorem dX7_howManyLent_23 : decode cX7_howManyLent 23 = .ok (.iinc 2 1, 3) := by decide +kernel
theorem dX7_howManyLent_26 : decode cX7_howManyLent 26 = .ok (.goto (-22), 3) := by decide +kernel
theorem dX7_howManyLent_29 : decode cX7_howManyLent 29 = .ok (.iload_n 1, 1) := by decide +kernel
theorem dX7_howManyLent_30 : decode cX7_howManyLent 30 = .ok (.ireturn, 1) := by decide +kernel
theorem dX7_traitsTogether_0 : decode cX7_traitsTogether 0 = .ok (.aload_n 0, 1) := by decide +kernel
theorem dX7_traitsTogether_1 : decode cX7_traitsTogether 1 = .ok (.aload_n 0, 1) := by decide +kernel
theorem dX7_traitsTogether_2 : decode cX7_traitsTogether 2 = .ok (.getfield 9, 3) := by decide +kernel
theorem dX7_traitsTogether_5 : decode cX7_traitsTogether 5 = .ok (.invokevirtual 60, 3) := by decide +kernel
theorem dX7_traitsTogether_8 : decode cX7_traitsTogether 8 = .ok (.ireturn, 1) := by decide +kernel
theorem dX7_dreamYears_0 : decode cX7_dreamYears 0 = .ok (.aload_n 0, 1) := by decide +kernel
theorem dX7_dreamYears_1 : decode cX7_dreamYears 1 = .ok (.iload_n 3, 1) := by decide +kernel
theorem dX7_dreamYears_2 : decode cX7_dreamYears 2 = .ok (.putfield 64, 3) := by decide +kernel
theorem dX7_dreamYears_5 : decode cX7_dreamYears 5 = .ok (.iconst 0, 1) := by decide +kernel
theorem dX7_dreamYears_6 : decode cX7_dreamYears 6 = .ok (.istore 4, 2) := by decide +kernel
theorem dX7_dreamYears_8 : decode cX7_dreamYears 8 = .ok (.iload 4, 2) := by decide +kernel
theorem dX7_dreamYears_10 : decode cX7_dreamYears 10 = .ok (.aload_n 0, 1) := by decide +kernel
theorem dX7_dreamYears_11 : decode cX7_dreamYears 11 = .ok (.getfield 27, 3) := by decide +kernel
theorem dX7_dreamYears_14 : decode cX7_dreamYears 14 = .ok (.if_icmp .ge 25, 3) := by decide +kernel
theorem dX7_dreamYears_17 : decode cX7_dreamYears 17 = .ok (.aload_n 0, 1) := by decide +kernel
theorem dX7_dreamYears_18 : decode cX7_dreamYears 18 = .ok (.getfield 24, 3) := by decide +kernel
theorem dX7_dreamYears_21 : decode cX7_dreamYears 21 = .ok (.iload 4, 2) := by decide +kernel
theorem dX7_dreamYears_23 : decode cX7_dreamYears 23 = .ok (.aload_n 0, 1) := by decide +kernel
theorem dX7_dreamYears_24 : decode cX7_dreamYears 24 = .ok (.iload 4, 2) := by decide +kernel
theorem dX7_dreamYears_26 : decode cX7_dreamYears 26 = .ok (.aload_n 1, 1) := by decide +kernel
theorem dX7_dreamYears_27 : decode cX7_dreamYears 27 = .ok (.invokevirtual 67, 3) := by decide +kernel
theorem dX7_dreamYears_30 : decode cX7_dreamYears 30 = .ok (.invokestatic 38, 3) := by decide +kernel
theorem dX7_dreamYears_33 : decode cX7_dreamYears 33 = .ok (.iinc 4 1, 3) := by decide +kernel
theorem dX7_dreamYears_36 : decode cX7_dreamYears 36 = .ok (.goto (-28), 3) := by decide +kernel
theorem dX7_dreamYears_39 : decode cX7_dreamYears 39 = .ok (.iconst 0, 1) := by decide +kernel
theorem dX7_dreamYears_40 : decode cX7_dreamYears 40 = .ok (.istore 4, 2) := by decide +kernel
theorem dX7_dreamYears_42 : decode cX7_dreamYears 42 = .ok (.iload 4, 2) := by decide +kernel
theorem dX7_dreamYears_44 : decode cX7_dreamYears 44 = .ok (.iload_n 2, 1) := by decide +kernel
theorem dX7_dreamYears_45 : decode cX7_dreamYears 45 = .ok (.if_icmp .ge 53, 3) := by decide +kernel
theorem dX7_dreamYears_48 : decode cX7_dreamYears 48 = .ok (.aload_n 0, 1) := by decide +kernel
theorem dX7_dreamYears_49 : decode cX7_dreamYears 49 = .ok (.aload_n 0, 1) := by decide +kernel
theorem dX7_dreamYears_50 : decode cX7_dreamYears 50 = .ok (.getfield 27, 3) := by decide +kernel
theorem dX7_dreamYears_53 : decode cX7_dreamYears 53 = .ok (.invokevirtual 71, 3) := by decide +kernel
theorem dX7_dreamYears_56 : decode cX7_dreamYears 56 = .ok (.istore 5, 2) := by decide +kernel
theorem dX7_dreamYears_58 : decode cX7_dreamYears 58 = .ok (.aload_n 0, 1) := by decide +kernel
theorem dX7_dreamYears_59 : decode cX7_dreamYears 59 = .ok (.aload_n 1, 1) := by decide +kernel
theorem dX7_dreamYears_60 : decode cX7_dreamYears 60 = .ok (.getfield 74, 3) := by decide +kernel
theorem dX7_dreamYears_63 : decode cX7_dreamYears 63 = .ok (.invokevirtual 71, 3) := by decide +kernel
theorem dX7_dreamYears_66 : decode cX7_dreamYears 66 = .ok (.istore 6, 2) := by decide +kernel
theorem dX7_dreamYears_68 : decode cX7_dreamYears 68 = .ok (.aload_n 0, 1) := by decide +kernel
theorem dX7_dreamYears_69 : decode cX7_dreamYears 69 = .ok (.getfield 24, 3) := by decide +kernel
theorem dX7_dreamYears_72 : decode cX7_dreamYears 72 = .ok (.iload 5, 2) := by decide +kernel
theorem dX7_dreamYears_74 : decode cX7_dreamYears 74 = .ok (.aload_n 1, 1) := by decide +kernel
theorem dX7_dreamYears_75 : decode cX7_dreamYears 75 = .ok (.iload 6, 2) := by decide +kernel
theorem dX7_dreamYears_77 : decode cX7_dreamYears 77 = .ok (.aload_n 0, 1) := by decide +kernel
theorem dX7_dreamYears_78 : decode cX7_dreamYears 78 = .ok (.getfield 24, 3) := by decide +kernel
theorem dX7_dreamYears_81 : decode cX7_dreamYears 81 = .ok (.iload 5, 2) := by decide +kernel
theorem dX7_dreamYears_83 : decode cX7_dreamYears 83 = .ok (.invokestatic 34, 3) := by decide +kernel
theorem dX7_dreamYears_86 : decode cX7_dreamYears 86 = .ok (.invokevirtual 46, 3) := by decide +kernel
theorem dX7_dreamYears_89 : decode cX7_dreamYears 89 = .ok (.invokestatic 38, 3) := by decide +kernel
theorem dX7_dreamYears_92 : decode cX7_dreamYears 92 = .ok (.iinc 4 1, 3) := by decide +kernel
theorem dX7_dreamYears_95 : decode cX7_dreamYears 95 = .ok (.goto (-53), 3) := by decide +kernel
theorem dX7_dreamYears_98 : decode cX7_dreamYears 98 = .ok (.return_, 1) := by decide +kernel
theorem dX7_stateOfFirstThen_0 : decode cX7_stateOfFirstThen 0 = .ok (.aload_n 0, 1) := by decide +kernel
theorem dX7_stateOfFirstThen_1 : decode cX7_stateOfFirstThen 1 = .ok (.getfield 24, 3) := by decide +kernel
theorem dX7_stateOfFirstThen_4 : decode cX7_stateOfFirstThen 4 = .ok (.iconst 0, 1) := by decide +kernel
theorem dX7_stateOfFirstThen_5 : decode cX7_stateOfFirstThen 5 = .ok (.invokestatic 34, 3) := by decide +kernel
theorem dX7_stateOfFirstThen_8 : decode cX7_stateOfFirstThen 8 = .ok (.ireturn, 1) := by decide +kernel
theorem dX7_traitsTogetherThen_0 : decode cX7_traitsTogetherThen 0 = .ok (.aload_n 0, 1) := by decide +kernel
theorem dX7_traitsTogetherThen_1 : decode cX7_traitsTogetherThen 1 = .ok (.aload_n 0, 1) := by decide +kernel
theorem dX7_traitsTogetherThen_2 : decode cX7_traitsTogetherThen 2 = .ok (.getfield 24, 3) := by decide +kernel
theorem dX7_traitsTogetherThen_5 : decode cX7_traitsTogetherThen 5 = .ok (.invokevirtual 60, 3) := by decide +kernel
theorem dX7_traitsTogetherThen_8 : decode cX7_traitsTogetherThen 8 = .ok (.ireturn, 1) := by decide +kernel
theorem dX7_takeBack_0 : decode cX7_takeBack 0 = .ok (.aload_n 0, 1) := by decide +kernel
theorem dX7_takeBack_1 : decode cX7_takeBack 1 = .ok (.getfield 9, 3) := by decide +kernel
theorem dX7_takeBack_4 : decode cX7_takeBack 4 = .ok (.iload_n 1, 1) := by decide +kernel
theorem dX7_takeBack_5 : decode cX7_takeBack 5 = .ok (.aload_n 0, 1) := by decide +kernel
theorem dX7_takeBack_6 : decode cX7_takeBack 6 = .ok (.iload_n 1, 1) := by decide +kernel
theorem dX7_takeBack_7 : decode cX7_takeBack 7 = .ok (.aload_n 2, 1) := by decide +kernel
theorem dX7_takeBack_8 : decode cX7_takeBack 8 = .ok (.invokevirtual 67, 3) := by decide +kernel
theorem dX7_takeBack_11 : decode cX7_takeBack 11 = .ok (.invokestatic 38, 3) := by decide +kernel
theorem dX7_takeBack_14 : decode cX7_takeBack 14 = .ok (.aload_n 0, 1) := by decide +kernel
theorem dX7_takeBack_15 : decode cX7_takeBack 15 = .ok (.getfield 15, 3) := by decide +kernel
theorem dX7_takeBack_18 : decode cX7_takeBack 18 = .ok (.iload_n 1, 1) := by decide +kernel
theorem dX7_takeBack_19 : decode cX7_takeBack 19 = .ok (.iconst (-1), 1) := by decide +kernel
theorem dX7_takeBack_20 : decode cX7_takeBack 20 = .ok (.invokestatic 38, 3) := by decide +kernel
theorem dX7_takeBack_23 : decode cX7_takeBack 23 = .ok (.aload_n 0, 1) := by decide +kernel
theorem dX7_takeBack_24 : decode cX7_takeBack 24 = .ok (.getfield 21, 3) := by decide +kernel
theorem dX7_takeBack_27 : decode cX7_takeBack 27 = .ok (.iload_n 1, 1) := by decide +kernel
theorem dX7_takeBack_28 : decode cX7_takeBack 28 = .ok (.aload_n 0, 1) := by decide +kernel
theorem dX7_takeBack_29 : decode cX7_takeBack 29 = .ok (.getfield 21, 3) := by decide +kernel
theorem dX7_takeBack_32 : decode cX7_takeBack 32 = .ok (.iload_n 1, 1) := by decide +kernel
theorem dX7_takeBack_33 : decode cX7_takeBack 33 = .ok (.invokestatic 34, 3) := by decide +kernel
theorem dX7_takeBack_36 : decode cX7_takeBack 36 = .ok (.iconst 1, 1) := by decide +kernel
theorem dX7_takeBack_37 : decode cX7_takeBack 37 = .ok (.iadd, 1) := by decide +kernel
theorem dX7_takeBack_38 : decode cX7_takeBack 38 = .ok (.invokestatic 38, 3) := by decide +kernel
theorem dX7_takeBack_41 : decode cX7_takeBack 41 = .ok (.return_, 1) := by decide +kernel
theorem dX7_traitsOf_0 : decode cX7_traitsOf 0 = .ok (.iconst 0, 1) := by decide +kernel
theorem dX7_traitsOf_1 : decode cX7_traitsOf 1 = .ok (.istore_n 2, 1) := by decide +kernel
theorem dX7_traitsOf_2 : decode cX7_traitsOf 2 = .ok (.iconst 0, 1) := by decide +kernel
theorem dX7_traitsOf_3 : decode cX7_traitsOf 3 = .ok (.istore_n 3, 1) := by decide +kernel
theorem dX7_traitsOf_4 : decode cX7_traitsOf 4 = .ok (.iload_n 3, 1) := by decide +kernel
theorem dX7_traitsOf_5 : decode cX7_traitsOf 5 = .ok (.aload_n 0, 1) := by decide +kernel
theorem dX7_traitsOf_6 : decode cX7_traitsOf 6 = .ok (.getfield 27, 3) := by decide +kernel
theorem dX7_traitsOf_9 : decode cX7_traitsOf 9 = .ok (.if_icmp .ge 20, 3) := by decide +kernel
theorem dX7_traitsOf_12 : decode cX7_traitsOf 12 = .ok (.iload_n 2, 1) := by decide +kernel
theorem dX7_traitsOf_13 : decode cX7_traitsOf 13 = .ok (.aload_n 1, 1) := by decide +kernel
theorem dX7_traitsOf_14 : decode cX7_traitsOf 14 = .ok (.iload_n 3, 1) := by decide +kernel
theorem dX7_traitsOf_15 : decode cX7_traitsOf 15 = .ok (.invokestatic 34, 3) := by decide +kernel
theorem dX7_traitsOf_18 : decode cX7_traitsOf 18 = .ok (.invokestatic 75, 3) := by decide +kernel
theorem dX7_traitsOf_21 : decode cX7_traitsOf 21 = .ok (.iadd, 1) := by decide +kernel
theorem dX7_traitsOf_22 : decode cX7_traitsOf 22 = .ok (.istore_n 2, 1) := by decide +kernel
theorem dX7_traitsOf_23 : decode cX7_traitsOf 23 = .ok (.iinc 3 1, 3) := by decide +kernel
theorem dX7_traitsOf_26 : decode cX7_traitsOf 26 = .ok (.goto (-22), 3) := by decide +kernel
theorem dX7_traitsOf_29 : decode cX7_traitsOf 29 = .ok (.iload_n 2, 1) := by decide +kernel
theorem dX7_traitsOf_30 : decode cX7_traitsOf 30 = .ok (.ireturn, 1) := by decide +kernel
theorem dX7_drawOf_0 : decode cX7_drawOf 0 = .ok (.aload_n 0, 1) := by decide +kernel
theorem dX7_drawOf_1 : decode cX7_drawOf 1 = .ok (.ldc2_w 78, 3) := by decide +kernel
theorem dX7_drawOf_4 : decode cX7_drawOf 4 = .ok (.aload_n 0, 1) := by decide +kernel
theorem dX7_drawOf_5 : decode cX7_drawOf 5 = .ok (.getfield 64, 3) := by decide +kernel
theorem dX7_drawOf_8 : decode cX7_drawOf 8 = .ok (.i2l, 1) := by decide +kernel
theorem dX7_drawOf_9 : decode cX7_drawOf 9 = .ok (.lmul, 1) := by decide +kernel
theorem dX7_drawOf_10 : decode cX7_drawOf 10 = .ok (.ldc2_w 80, 3) := by decide +kernel
theorem dX7_drawOf_13 : decode cX7_drawOf 13 = .ok (.ladd, 1) := by decide +kernel
theorem dX7_drawOf_14 : decode cX7_drawOf 14 = .ok (.ldc2_w 82, 3) := by decide +kernel
theorem dX7_drawOf_17 : decode cX7_drawOf 17 = .ok (.land, 1) := by decide +kernel
theorem dX7_drawOf_18 : decode cX7_drawOf 18 = .ok (.l2i, 1) := by decide +kernel
theorem dX7_drawOf_19 : decode cX7_drawOf 19 = .ok (.putfield 64, 3) := by decide +kernel
theorem dX7_drawOf_22 : decode cX7_drawOf 22 = .ok (.iload_n 1, 1) := by decide +kernel
theorem dX7_drawOf_23 : decode cX7_drawOf 23 = .ok (.ifCond .le 15, 3) := by decide +kernel
theorem dX7_drawOf_26 : decode cX7_drawOf 26 = .ok (.aload_n 0, 1) := by decide +kernel
theorem dX7_drawOf_27 : decode cX7_drawOf 27 = .ok (.getfield 64, 3) := by decide +kernel
theorem dX7_drawOf_30 : decode cX7_drawOf 30 = .ok (.ldc 84, 2) := by decide +kernel
theorem dX7_drawOf_32 : decode cX7_drawOf 32 = .ok (.idiv, 1) := by decide +kernel
theorem dX7_drawOf_33 : decode cX7_drawOf 33 = .ok (.iload_n 1, 1) := by decide +kernel
theorem dX7_drawOf_34 : decode cX7_drawOf 34 = .ok (.irem, 1) := by decide +kernel
theorem dX7_drawOf_35 : decode cX7_drawOf 35 = .ok (.goto 4, 3) := by decide +kernel
theorem dX7_drawOf_38 : decode cX7_drawOf 38 = .ok (.iconst 0, 1) := by decide +kernel
theorem dX7_drawOf_39 : decode cX7_drawOf 39 = .ok (.ireturn, 1) := by decide +kernel
theorem dX8_init_0 : decode cX8_init 0 = .ok (.aload_n 0, 1) := by decide +kernel
theorem dX8_init_1 : decode cX8_init 1 = .ok (.invokespecial 3, 3) := by decide +kernel
theorem dX8_init_4 : decode cX8_init 4 = .ok (.aload_n 0, 1) := by decide +kernel
theorem dX8_init_5 : decode cX8_init 5 = .ok (.bipush 6, 2) := by decide +kernel
theorem dX8_init_7 : decode cX8_init 7 = .ok (.anewarray 9, 3) := by decide +kernel
theorem dX8_init_10 : decode cX8_init 10 = .ok (.putfield 11, 3) := by decide +kernel
theorem dX8_init_13 : decode cX8_init 13 = .ok (.aload_n 0, 1) := by decide +kernel
theorem dX8_init_14 : decode cX8_init 14 = .ok (.sipush 3072, 3) := by decide +kernel
theorem dX8_init_17 : decode cX8_init 17 = .ok (.newarray .int, 2) := by decide +kernel
theorem dX8_init_19 : decode cX8_init 19 = .ok (.putfield 17, 3) := by decide +kernel
theorem dX8_init_22 : decode cX8_init 22 = .ok (.aload_n 0, 1) := by decide +kernel
theorem dX8_init_23 : decode cX8_init 23 = .ok (.sipush 512, 3) := by decide +kernel
theorem dX8_init_26 : decode cX8_init 26 = .ok (.newarray .int, 2) := by decide +kernel
theorem dX8_init_28 : decode cX8_init 28 = .ok (.putfield 21, 3) := by decide +kernel
theorem dX8_init_31 : decode cX8_init 31 = .ok (.aload_n 0, 1) := by decide +kernel
theorem dX8_init_32 : decode cX8_init 32 = .ok (.sipush 512, 3) := by decide +kernel
theorem dX8_init_35 : decode cX8_init 35 = .ok (.newarray .int, 2) := by decide +kernel
theorem dX8_init_37 : decode cX8_init 37 = .ok (.putfield 24, 3) := by decide +kernel
theorem dX8_init_40 : decode cX8_init 40 = .ok (.return_, 1) := by decide +kernel
theorem dX8_read_0 : decode cX8_read 0 = .ok (.aload_n 0, 1) := by decide +kernel
theorem dX8_read_1 : decode cX8_read 1 = .ok (.aload_n 1, 1) := by decide +kernel
theorem dX8_read_2 : decode cX8_read 2 = .ok (.invokevirtual 27, 3) := by decide +kernel
theorem dX8_read_5 : decode cX8_read 5 = .ok (.aload_n 0, 1) := by decide +kernel
theorem dX8_read_6 : decode cX8_read 6 = .ok (.getfield 11, 3) := by decide +kernel
theorem dX8_read_9 : decode cX8_read 9 = .ok (.arraylength, 1) := by decide +kernel
theorem dX8_read_10 : decode cX8_read 10 = .ok (.invokestatic 32, 3) := by decide +kernel
theorem dX8_read_13 : decode cX8_read 13 = .ok (.putfield 38, 3) := by decide +kernel
theorem dX8_read_16 : decode cX8_read 16 = .ok (.iconst 0, 1) := by decide +kernel
theorem dX8_read_17 : decode cX8_read 17 = .ok (.istore_n 2, 1) := by decide +kernel
theorem dX8_read_18 : decode cX8_read 18 = .ok (.iload_n 2, 1) := by decide +kernel
theorem dX8_read_19 : decode cX8_read 19 = .ok (.aload_n 0, 1) := by decide +kernel
theorem dX8_read_20 : decode cX8_read 20 = .ok (.getfield 38, 3) := by decide +kernel
theorem dX8_read_23 : decode cX8_read 23 = .ok (.if_icmp .ge 69, 3) := by decide +kernel
theorem dX8_read_26 : decode cX8_read 26 = .ok (.iload_n 2, 1) := by decide +kernel
theorem dX8_read_27 : decode cX8_read 27 = .ok (.aload_n 0, 1) := by decide +kernel
theorem dX8_read_28 : decode cX8_read 28 = .ok (.getfield 11, 3) := by decide +kernel
theorem dX8_read_31 : decode cX8_read 31 = .ok (.arraylength, 1) := by decide +kernel
theorem dX8_read_32 : decode cX8_read 32 = .ok (.if_icmp .ge 60, 3) := by decide +kernel
theorem dX8_read_35 : decode cX8_read 35 = .ok (.aload_n 1, 1) := by decide +kernel
theorem dX8_read_36 : decode cX8_read 36 = .ok (.iload_n 2, 1) := by decide +kernel
theorem dX8_read_37 : decode cX8_read 37 = .ok (.invokevirtual 42, 3) := by decide +kernel
theorem dX8_read_40 : decode cX8_read 40 = .ok (.astore_n 3, 1) := by decide +kernel
theorem dX8_read_41 : decode cX8_read 41 = .ok (.aload_n 0, 1) := by decide +kernel
theorem dX8_read_42 : decode cX8_read 42 = .ok (.getfield 11, 3) := by decide +kernel
theorem dX8_read_45 : decode cX8_read 45 = .ok (.iload_n 2, 1) := by decide +kernel
theorem dX8_read_46 : decode cX8_read 46 = .ok (.aload_n 3, 1) := by decide +kernel
theorem dX8_read_47 : decode cX8_read 47 = .ok (.aastore, 1) := by decide +kernel
theorem dX8_read_48 : decode cX8_read 48 = .ok (.iconst 0, 1) := by decide +kernel
theorem dX8_read_49 : decode cX8_read 49 = .ok (.istore 4, 2) := by decide +kernel
theorem dX8_read_51 : decode cX8_read 51 = .ok (.iload 4, 2) := by decide +kernel
theorem dX8_read_53 : decode cX8_read 53 = .ok (.sipush 512, 3) := by decide +kernel
theorem dX8_read_56 : decode cX8_read 56 = .ok (.if_icmp .ge 30, 3) := by decide +kernel
theorem dX8_read_59 : decode cX8_read 59 = .ok (.aload_n 0, 1) := by decide +kernel
theorem dX8_read_60 : decode cX8_read 60 = .ok (.getfield 17, 3) := by decide +kernel
theorem dX8_read_63 : decode cX8_read 63 = .ok (.iload_n 2, 1) := by decide +kernel
theorem dX8_read_64 : decode cX8_read 64 = .ok (.sipush 512, 3) := by decide +kernel
theorem dX8_read_67 : decode cX8_read 67 = .ok (.imul, 1) := by decide +kernel
theorem dX8_read_68 : decode cX8_read 68 = .ok (.iload 4, 2) := by decide +kernel
theorem dX8_read_70 : decode cX8_read 70 = .ok (.iadd, 1) := by decide +kernel
theorem dX8_read_71 : decode cX8_read 71 = .ok (.aload_n 3, 1) := by decide +kernel
theorem dX8_read_72 : decode cX8_read 72 = .ok (.iload 4, 2) := by decide +kernel
theorem dX8_read_74 : decode cX8_read 74 = .ok (.invokevirtual 46, 3) := by decide +kernel
theorem dX8_read_77 : decode cX8_read 77 = .ok (.invokestatic 50, 3) := by decide +kernel
theorem dX8_read_80 : decode cX8_read 80 = .ok (.iinc 4 1, 3) := by decide +kernel
theorem dX8_read_83 : decode cX8_read 83 = .ok (.goto (-32), 3) := by decide +kernel
theorem dX8_read_86 : decode cX8_read 86 = .ok (.iinc 2 1, 3) := by decide +kernel
theorem dX8_read_89 : decode cX8_read 89 = .ok (.goto (-71), 3) := by decide +kernel
theorem dX8_read_92 : decode cX8_read 92 = .ok (.return_, 1) := by decide +kernel
theorem dX8_borrowerAt_0 : decode cX8_borrowerAt 0 = .ok (.iload_n 1, 1) := by decide +kernel
theorem dX8_borrowerAt_1 : decode cX8_borrowerAt 1 = .ok (.ifCond .lt 29, 3) := by decide +kernel
theorem dX8_borrowerAt_4 : decode cX8_borrowerAt 4 = .ok (.iload_n 1, 1) := by decide +kernel
theorem dX8_borrowerAt_5 : decode cX8_borrowerAt 5 = .ok (.aload_n 0, 1) := by decide +kernel
theorem dX8_borrowerAt_6 : decode cX8_borrowerAt 6 = .ok (.getfield 38, 3) := by decide +kernel
theorem dX8_borrowerAt_9 : decode cX8_borrowerAt 9 = .ok (.if_icmp .ge 21, 3) := by decide +kernel
theorem dX8_borrowerAt_12 : decode cX8_borrowerAt 12 = .ok (.iload_n 1, 1) := by decide +kernel
theorem dX8_borrowerAt_13 : decode cX8_borrowerAt 13 = .ok (.aload_n 0, 1) := by decide +kernel
theorem dX8_borrowerAt_14 : decode cX8_borrowerAt 14 = .ok (.getfield 11, 3) := by decide +kernel
theorem dX8_borrowerAt_17 : decode cX8_borrowerAt 17 = .ok (.arraylength, 1) := by decide +kernel
theorem dX8_borrowerAt_18 : decode cX8_borrowerAt 18 = .ok (.if_icmp .ge 12, 3) := by decide +kernel
theorem dX8_borrowerAt_21 : decode cX8_borrowerAt 21 = .ok (.aload_n 0, 1) := by decide +kernel
theorem dX8_borrowerAt_22 : decode cX8_borrowerAt 22 = .ok (.getfield 11, 3) := by decide +kernel
theorem dX8_borrowerAt_25 : decode cX8_borrowerAt 25 = .ok (.iload_n 1, 1) := by decide +kernel
theorem dX8_borrowerAt_26 : decode cX8_borrowerAt 26 = .ok (.aaload, 1) := by decide +kernel
theorem dX8_borrowerAt_27 : decode cX8_borrowerAt 27 = .ok (.goto 4, 3) := by decide +kernel
theorem dX8_borrowerAt_30 : decode cX8_borrowerAt 30 = .ok (.aconst_null, 1) := by decide +kernel
theorem dX8_borrowerAt_31 : decode cX8_borrowerAt 31 = .ok (.areturn, 1) := by decide +kernel
theorem dX8_daysOf_0 : decode cX8_daysOf 0 = .ok (.aload_n 0, 1) := by decide +kernel
theorem dX8_daysOf_1 : decode cX8_daysOf 1 = .ok (.iload_n 1, 1) := by decide +kernel
theorem dX8_daysOf_2 : decode cX8_daysOf 2 = .ok (.invokevirtual 54, 3) := by decide +kernel
theorem dX8_daysOf_5 : decode cX8_daysOf 5 = .ok (.astore_n 2, 1) := by decide +kernel
theorem dX8_daysOf_6 : decode cX8_daysOf 6 = .ok (.aload_n 2, 1) := by decide +kernel
theorem dX8_daysOf_7 : decode cX8_daysOf 7 = .ok (.ifnonnull 7, 3) := by decide +kernel
theorem dX8_daysOf_10 : decode cX8_daysOf 10 = .ok (.iconst 1, 1) := by decide +kernel
theorem dX8_daysOf_11 : decode cX8_daysOf 11 = .ok (.goto 7, 3) := by decide +kernel
theorem dX8_daysOf_14 : decode cX8_daysOf 14 = .ok (.aload_n 2, 1) := by decide +kernel
theorem dX8_daysOf_15 : decode cX8_daysOf 15 = .ok (.getfield 57, 3) := by decide +kernel
theorem dX8_daysOf_18 : decode cX8_daysOf 18 = .ok (.ireturn, 1) := by decide +kernel
theorem dX8_after_0 : decode cX8_after 0 = .ok (.iload_n 1, 1) := by decide +kernel
theorem dX8_after_1 : decode cX8_after 1 = .ok (.sipush 512, 3) := by decide +kernel
theorem dX8_after_4 : decode cX8_after 4 = .ok (.imul, 1) := by decide +kernel
theorem dX8_after_5 : decode cX8_after 5 = .ok (.iload_n 2, 1) := by decide +kernel
theorem dX8_after_6 : decode cX8_after 6 = .ok (.iadd, 1) := by decide +kernel
theorem dX8_after_7 : decode cX8_after 7 = .ok (.istore_n 3, 1) := by decide +kernel
theorem dX8_after_8 : decode cX8_after 8 = .ok (.iload_n 3, 1) := by decide +kernel
theorem dX8_after_9 : decode cX8_after 9 = .ok (.ifCond .lt 21, 3) := by decide +kernel
theorem dX8_after_12 : decode cX8_after 12 = .ok (.iload_n 3, 1) := by decide +kernel
theorem dX8_after_13 : decode cX8_after 13 = .ok (.aload_n 0, 1) := by decide +kernel
theorem dX8_after_14 : decode cX8_after 14 = .ok (.getfield 17, 3) := by decide +kernel
theorem dX8_after_17 : decode cX8_after 17 = .ok (.arraylength, 1) := by decide +kernel
theorem dX8_after_18 : decode cX8_after 18 = .ok (.if_icmp .ge 12, 3) := by decide +kernel
theorem dX8_after_21 : decode cX8_after 21 = .ok (.aload_n 0, 1) := by decide +kernel
theorem dX8_after_22 : decode cX8_after 22 = .ok (.getfield 17, 3) := by decide +kernel
theorem dX8_after_25 : decode cX8_after 25 = .ok (.iload_n 3, 1) := by decide +kernel
theorem dX8_after_26 : decode cX8_after 26 = .ok (.iaload, 1) := by decide +kernel
theorem dX8_after_27 : decode cX8_after 27 = .ok (.goto 4, 3) := by decide +kernel
theorem dX8_after_30 : decode cX8_after 30 = .ok (.iconst 0, 1) := by decide +kernel
theorem dX8_after_31 : decode cX8_after 31 = .ok (.ireturn, 1) := by decide +kernel
theorem dX8_endOf_0 : decode cX8_endOf 0 = .ok (.iload_n 2, 1) := by decide +kernel
theorem dX8_endOf_1 : decode cX8_endOf 1 = .ok (.istore_n 3, 1) := by decide +kernel
theorem dX8_endOf_2 : decode cX8_endOf 2 = .ok (.iconst 0, 1) := by decide +kernel
theorem dX8_endOf_3 : decode cX8_endOf 3 = .ok (.istore 4, 2) := by decide +kernel
theorem dX8_endOf_5 : decode cX8_endOf 5 = .ok (.iload 4, 2) := by decide +kernel
theorem dX8_endOf_7 : decode cX8_endOf 7 = .ok (.aload_n 1, 1) := by decide +kernel
theorem dX8_endOf_8 : decode cX8_endOf 8 = .ok (.getfield 60, 3) := by decide +kernel
theorem dX8_endOf_11 : decode cX8_endOf 11 = .ok (.if_icmp .ge 21, 3) := by decide +kernel
theorem dX8_endOf_14 : decode cX8_endOf 14 = .ok (.aload_n 0, 1) := by decide +kernel
theorem dX8_endOf_15 : decode cX8_endOf 15 = .ok (.aload_n 1, 1) := by decide +kernel
theorem dX8_endOf_16 : decode cX8_endOf 16 = .ok (.iload 4, 2) := by decide +kernel
theorem dX8_endOf_18 : decode cX8_endOf 18 = .ok (.invokevirtual 63, 3) := by decide +kernel
theorem dX8_endOf_21 : decode cX8_endOf 21 = .ok (.iload_n 3, 1) := by decide +kernel
theorem dX8_endOf_22 : decode cX8_endOf 22 = .ok (.invokevirtual 66, 3) := by decide +kernel
theorem dX8_endOf_25 : decode cX8_endOf 25 = .ok (.istore_n 3, 1) := by decide +kernel
theorem dX8_endOf_26 : decode cX8_endOf 26 = .ok (.iinc 4 1, 3) := by decide +kernel
theorem dX8_endOf_29 : decode cX8_endOf 29 = .ok (.goto (-24), 3) := by decide +kernel
theorem dX8_endOf_32 : decode cX8_endOf 32 = .ok (.iload_n 3, 1) := by decide +kernel
theorem dX8_endOf_33 : decode cX8_endOf 33 = .ok (.ireturn, 1) := by decide +kernel
theorem dX8_timesUntilBack_0 : decode cX8_timesUntilBack 0 = .ok (.iconst 0, 1) := by decide +kernel
theorem dX8_timesUntilBack_1 : decode cX8_timesUntilBack 1 = .ok (.istore_n 2, 1) := by decide +kernel
theorem dX8_timesUntilBack_2 : decode cX8_timesUntilBack 2 = .ok (.iload_n 2, 1) := by decide +kernel
theorem dX8_timesUntilBack_3 : decode cX8_timesUntilBack 3 = .ok (.sipush 512, 3) := by decide +kernel
theorem dX8_timesUntilBack_6 : decode cX8_timesUntilBack 6 = .ok (.if_icmp .ge 32, 3) := by decide +kernel
theorem dX8_timesUntilBack_9 : decode cX8_timesUntilBack 9 = .ok (.aload_n 0, 1) := by decide +kernel
theorem dX8_timesUntilBack_10 : decode cX8_timesUntilBack 10 = .ok (.getfield 21, 3) := by decide +kernel
theorem dX8_timesUntilBack_13 : decode cX8_timesUntilBack 13 = .ok (.iload_n 2, 1) := by decide +kernel
theorem dX8_timesUntilBack_14 : decode cX8_timesUntilBack 14 = .ok (.aload_n 0, 1) := by decide +kernel
theorem dX8_timesUntilBack_15 : decode cX8_timesUntilBack 15 = .ok (.aload_n 1, 1) := by decide +kernel
theorem dX8_timesUntilBack_16 : decode cX8_timesUntilBack 16 = .ok (.iload_n 2, 1) := by decide +kernel
theorem dX8_timesUntilBack_17 : decode cX8_timesUntilBack 17 = .ok (.invokevirtual 69, 3) := by decide +kernel
theorem dX8_timesUntilBack_20 : decode cX8_timesUntilBack 20 = .ok (.invokestatic 50, 3) := by decide +kernel
theorem dX8_timesUntilBack_23 : decode cX8_timesUntilBack 23 = .ok (.aload_n 0, 1) := by decide +kernel
theorem dX8_timesUntilBack_24 : decode cX8_timesUntilBack 24 = .ok (.getfield 24, 3) := by decide +kernel
theorem dX8_timesUntilBack_27 : decode cX8_timesUntilBack 27 = .ok (.iload_n 2, 1) := by decide +kernel
theorem dX8_timesUntilBack_28 : decode cX8_timesUntilBack 28 = .ok (.iload_n 2, 1) := by decide +kernel
theorem dX8_timesUntilBack_29 : decode cX8_timesUntilBack 29 = .ok (.invokestatic 50, 3) := by decide +kernel
theorem dX8_timesUntilBack_32 : decode cX8_timesUntilBack 32 = .ok (.iinc 2 1, 3) := by decide +kernel
theorem dX8_timesUntilBack_35 : decode cX8_timesUntilBack 35 = .ok (.goto (-33), 3) := by decide +kernel
theorem dX8_timesUntilBack_38 : decode cX8_timesUntilBack 38 = .ok (.iconst 1, 1) := by decide +kernel
theorem dX8_timesUntilBack_39 : decode cX8_timesUntilBack 39 = .ok (.istore_n 2, 1) := by decide +kernel
theorem dX8_timesUntilBack_40 : decode cX8_timesUntilBack 40 = .ok (.iload_n 2, 1) := by decide +kernel
theorem dX8_timesUntilBack_41 : decode cX8_timesUntilBack 41 = .ok (.bipush 60, 2) := by decide +kernel
theorem dX8_timesUntilBack_43 : decode cX8_timesUntilBack 43 = .ok (.if_icmp .gt 18, 3) := by decide +kernel
theorem dX8_timesUntilBack_46 : decode cX8_timesUntilBack 46 = .ok (.aload_n 0, 1) := by decide +kernel
theorem dX8_timesUntilBack_47 : decode cX8_timesUntilBack 47 = .ok (.invokevirtual 73, 3) := by decide +kernel
theorem dX8_timesUntilBack_50 : decode cX8_timesUntilBack 50 = .ok (.ifCond .eq 5, 3) := by decide +kernel
theorem dX8_timesUntilBack_53 : decode cX8_timesUntilBack 53 = .ok (.iload_n 2, 1) := by decide +kernel
theorem dX8_timesUntilBack_54 : decode cX8_timesUntilBack 54 = .ok (.ireturn, 1) := by decide +kernel
theorem dX8_timesUntilBack_55 : decode cX8_timesUntilBack 55 = .ok (.iinc 2 1, 3) := by decide +kernel
theorem dX8_timesUntilBack_58 : decode cX8_timesUntilBack 58 = .ok (.goto (-18), 3) := by decide +kernel
theorem dX8_timesUntilBack_61 : decode cX8_timesUntilBack 61 = .ok (.iconst (-1), 1) := by decide +kernel
theorem dX8_timesUntilBack_62 : decode cX8_timesUntilBack 62 = .ok (.ireturn, 1) := by decide +kernel
theorem dX8_areAllBackAfterOneMore_0 : decode cX8_areAllBackAfterOneMore 0 = .ok (.iconst 1, 1) := by decide +kernel
theorem dX8_areAllBackAfterOneMore_1 : decode cX8_areAllBackAfterOneMore 1 = .ok (.istore_n 1, 1) := by decide +kernel
theorem dX8_areAllBackAfterOneMore_2 : decode cX8_areAllBackAfterOneMore 2 = .ok (.iconst 0, 1) := by decide +kernel
theorem dX8_areAllBackAfterOneMore_3 : decode cX8_areAllBackAfterOneMore 3 = .ok (.istore_n 2, 1) := by decide +kernel
theorem dX8_areAllBackAfterOneMore_4 : decode cX8_areAllBackAfterOneMore 4 = .ok (.iload_n 2, 1) := by decide +kernel
theorem dX8_areAllBackAfterOneMore_5 : decode cX8_areAllBackAfterOneMore 5 = .ok (.sipush 512, 3) := by decide +kernel
theorem dX8_areAllBackAfterOneMore_8 : decode cX8_areAllBackAfterOneMore 8 = .ok (.if_icmp .ge 49, 3) := by decide +kernel
theorem dX8_areAllBackAfterOneMore_11 : decode cX8_areAllBackAfterOneMore 11 = .ok (.aload_n 0, 1) := by decide +kernel
theorem dX8_areAllBackAfterOneMore_12 : decode cX8_areAllBackAfterOneMore 12 = .ok (.getfield 21, 3) := by decide +kernel
theorem dX8_areAllBackAfterOneMore_15 : decode cX8_areAllBackAfterOneMore 15 = .ok (.aload_n 0, 1) := by decide +kernel
theorem dX8_areAllBackAfterOneMore_16 : decode cX8_areAllBackAfterOneMore 16 = .ok (.getfield 24, 3) := by decide +kernel
theorem dX8_areAllBackAfterOneMore_19 : decode cX8_areAllBackAfterOneMore 19 = .ok (.iload_n 2, 1) := by decide +kernel
theorem dX8_areAllBackAfterOneMore_20 : decode cX8_areAllBackAfterOneMore 20 = .ok (.invokestatic 77, 3) := by decide +kernel
theorem dX8_areAllBackAfterOneMore_23 : decode cX8_areAllBackAfterOneMore 23 = .ok (.invokestatic 77, 3) := by decide +kernel
theorem dX8_areAllBackAfterOneMore_26 : decode cX8_areAllBackAfterOneMore 26 = .ok (.istore_n 3, 1) := by decide +kernel
theorem dX8_areAllBackAfterOneMore_27 : decode cX8_areAllBackAfterOneMore 27 = .ok (.aload_n 0, 1) := by decide +kernel
theorem dX8_areAllBackAfterOneMore_28 : decode cX8_areAllBackAfterOneMore 28 = .ok (.getfield 24, 3) := by decide +kernel
theorem dX8_areAllBackAfterOneMore_31 : decode cX8_areAllBackAfterOneMore 31 = .ok (.iload_n 2, 1) := by decide +kernel
theorem dX8_areAllBackAfterOneMore_32 : decode cX8_areAllBackAfterOneMore 32 = .ok (.iload_n 3, 1) := by decide +kernel
theorem dX8_areAllBackAfterOneMore_33 : decode cX8_areAllBackAfterOneMore 33 = .ok (.invokestatic 50, 3) := by decide +kernel
theorem dX8_areAllBackAfterOneMore_36 : decode cX8_areAllBackAfterOneMore 36 = .ok (.iload_n 1, 1) := by decide +kernel
theorem dX8_areAllBackAfterOneMore_37 : decode cX8_areAllBackAfterOneMore 37 = .ok (.ifCond .eq 12, 3) := by decide +kernel
theorem dX8_areAllBackAfterOneMore_40 : decode cX8_areAllBackAfterOneMore 40 = .ok (.iload_n 3, 1) := by decide +kernel
theorem dX8_areAllBackAfterOneMore_41 : decode cX8_areAllBackAfterOneMore 41 = .ok (.iload_n 2, 1) := by decide +kernel
theorem dX8_areAllBackAfterOneMore_42 : decode cX8_areAllBackAfterOneMore 42 = .ok (.if_icmp .ne 7, 3) := by decide +kernel
theorem dX8_areAllBackAfterOneMore_45 : decode cX8_areAllBackAfterOneMore 45 = .ok (.iconst 1, 1) := by decide +kernel
theorem dX8_areAllBackAfterOneMore_46 : decode cX8_areAllBackAfterOneMore 46 = .ok (.goto 4, 3) := by decide +kernel
theorem dX8_areAllBackAfterOneMore_49 : decode cX8_areAllBackAfterOneMore 49 = .ok (.iconst 0, 1) := by decide +kernel
theorem dX8_areAllBackAfterOneMore_50 : decode cX8_areAllBackAfterOneMore 50 = .ok (.istore_n 1, 1) := by decide +kernel
theorem dX8_areAllBackAfterOneMore_51 : decode cX8_areAllBackAfterOneMore 51 = .ok (.iinc 2 1, 3) := by decide +kernel
theorem dX8_areAllBackAfterOneMore_54 : decode cX8_areAllBackAfterOneMore 54 = .ok (.goto (-50), 3) := by decide +kernel
theorem dX8_areAllBackAfterOneMore_57 : decode cX8_areAllBackAfterOneMore 57 = .ok (.iload_n 1, 1) := by decide +kernel
theorem dX8_areAllBackAfterOneMore_58 : decode cX8_areAllBackAfterOneMore 58 = .ok (.ireturn, 1) := by decide +kernel
theorem dX9_init_0 : decode cX9_init 0 = .ok (.aload_n 0, 1) := by decide +kernel
theorem dX9_init_1 : decode cX9_init 1 = .ok (.iload_n 1, 1) := by decide +kernel
theorem dX9_init_2 : decode cX9_init 2 = .ok (.iload_n 2, 1) := by decide +kernel
theorem dX9_init_3 : decode cX9_init 3 = .ok (.iload_n 3, 1) := by decide +kernel
theorem dX9_init_4 : decode cX9_init 4 = .ok (.invokespecial 3, 3) := by decide +kernel
theorem dX9_init_7 : decode cX9_init 7 = .ok (.return_, 1) := by decide +kernel
theorem dX9_kind_0 : decode cX9_kind 0 = .ok (.iconst 2, 1) := by decide +kernel
theorem dX9_kind_1 : decode cX9_kind 1 = .ok (.ireturn, 1) := by decide +kernel
theorem dX9_changed_0 : decode cX9_changed 0 = .ok (.bipush 7, 2) := by decide +kernel
theorem dX9_changed_2 : decode cX9_changed 2 = .ok (.iload_n 1, 1) := by decide +kernel
theorem dX9_changed_3 : decode cX9_changed 3 = .ok (.isub, 1) := by decide +kernel
theorem dX9_changed_4 : decode cX9_changed 4 = .ok (.ireturn, 1) := by decide +kernel
theorem dX10_init_0 : decode cX10_init 0 = .ok (.aload_n 0, 1) := by decide +kernel
theorem dX10_init_1 : decode cX10_init 1 = .ok (.invokespecial 3, 3) := by decide +kernel
theorem dX10_init_4 : decode cX10_init 4 = .ok (.aload_n 0, 1) := by decide +kernel
theorem dX10_init_5 : decode cX10_init 5 = .ok (.sipush 512, 3) := by decide +kernel
theorem dX10_init_8 : decode cX10_init 8 = .ok (.newarray .int, 2) := by decide +kernel
theorem dX10_init_10 : decode cX10_init 10 = .ok (.putfield 9, 3) := by decide +kernel
theorem dX10_init_13 : decode cX10_init 13 = .ok (.aload_n 0, 1) := by decide +kernel
theorem dX10_init_14 : decode cX10_init 14 = .ok (.sipush 512, 3) := by decide +kernel
theorem dX10_init_17 : decode cX10_init 17 = .ok (.newarray .int, 2) := by decide +kernel
theorem dX10_init_19 : decode cX10_init 19 = .ok (.putfield 15, 3) := by decide +kernel
theorem dX10_init_22 : decode cX10_init 22 = .ok (.aload_n 0, 1) := by decide +kernel
theorem dX10_init_23 : decode cX10_init 23 = .ok (.sipush 512, 3) := by decide +kernel
theorem dX10_init_26 : decode cX10_init 26 = .ok (.newarray .int, 2) := by decide +kernel
theorem dX10_init_28 : decode cX10_init 28 = .ok (.putfield 18, 3) := by decide +kernel
theorem dX10_init_31 : decode cX10_init 31 = .ok (.aload_n 0, 1) := by decide +kernel
theorem dX10_init_32 : decode cX10_init 32 = .ok (.bipush 6, 2) := by decide +kernel
theorem dX10_init_34 : decode cX10_init 34 = .ok (.newarray .int, 2) := by decide +kernel
theorem dX10_init_36 : decode cX10_init 36 = .ok (.putfield 21, 3) := by decide +kernel
theorem dX10_init_39 : decode cX10_init 39 = .ok (.aload_n 0, 1) := by decide +kernel
theorem dX10_init_40 : decode cX10_init 40 = .ok (.bipush 6, 2) := by decide +kernel
theorem dX10_init_42 : decode cX10_init 42 = .ok (.newarray .int, 2) := by decide +kernel
theorem dX10_init_44 : decode cX10_init 44 = .ok (.putfield 24, 3) := by decide +kernel
theorem dX10_init_47 : decode cX10_init 47 = .ok (.aload_n 0, 1) := by decide +kernel
theorem dX10_init_48 : decode cX10_init 48 = .ok (.iconst (-1), 1) := by decide +kernel
theorem dX10_init_49 : decode cX10_init 49 = .ok (.putfield 27, 3) := by decide +kernel
theorem dX10_init_52 : decode cX10_init 52 = .ok (.aload_n 0, 1) := by decide +kernel
theorem dX10_init_53 : decode cX10_init 53 = .ok (.aload_n 1, 1) := by decide +kernel
theorem dX10_init_54 : decode cX10_init 54 = .ok (.putfield 31, 3) := by decide +kernel
theorem dX10_init_57 : decode cX10_init 57 = .ok (.aload_n 0, 1) := by decide +kernel
theorem dX10_init_58 : decode cX10_init 58 = .ok (.iload_n 2, 1) := by decide +kernel
theorem dX10_init_59 : decode cX10_init 59 = .ok (.putfield 35, 3) := by decide +kernel
theorem dX10_init_62 : decode cX10_init 62 = .ok (.return_, 1) := by decide +kernel
theorem dX10_forget_0 : decode cX10_forget 0 = .ok (.aload_n 0, 1) := by decide +kernel
theorem dX10_forget_1 : decode cX10_forget 1 = .ok (.iconst (-1), 1) := by decide +kernel
theorem dX10_forget_2 : decode cX10_forget 2 = .ok (.putfield 27, 3) := by decide +kernel
theorem dX10_forget_5 : decode cX10_forget 5 = .ok (.return_, 1) := by decide +kernel
theorem dX10_costOf_0 : decode cX10_costOf 0 = .ok (.aload_n 0, 1) := by decide +kernel
theorem dX10_costOf_1 : decode cX10_costOf 1 = .ok (.getfield 9, 3) := by decide +kernel
theorem dX10_costOf_4 : decode cX10_costOf 4 = .ok (.iload_n 1, 1) := by decide +kernel
theorem dX10_costOf_5 : decode cX10_costOf 5 = .ok (.invokestatic 39, 3) := by decide +kernel
theorem dX10_costOf_8 : decode cX10_costOf 8 = .ok (.ireturn, 1) := by decide +kernel
theorem dX10_firstTo_0 : decode cX10_firstTo 0 = .ok (.aload_n 0, 1) := by decide +kernel
theorem dX10_firstTo_1 : decode cX10_firstTo 1 = .ok (.getfield 15, 3) := by decide +kernel
theorem dX10_firstTo_4 : decode cX10_firstTo 4 = .ok (.iload_n 1, 1) := by decide +kernel
theorem dX10_firstTo_5 : decode cX10_firstTo 5 = .ok (.invokestatic 39, 3) := by decide +kernel
theorem dX10_firstTo_8 : decode cX10_firstTo 8 = .ok (.ireturn, 1) := by decide +kernel
theorem dX10_searchFrom_0 : decode cX10_searchFrom 0 = .ok (.iload_n 1, 1) := by decide +kernel
theorem dX10_searchFrom_1 : decode cX10_searchFrom 1 = .ok (.aload_n 0, 1) := by decide +kernel
theorem dX10_searchFrom_2 : decode cX10_searchFrom 2 = .ok (.getfield 27, 3) := by decide +kernel
theorem dX10_searchFrom_5 : decode cX10_searchFrom 5 = .ok (.if_icmp .ne 4, 3) := by decide +kernel
theorem dX10_searchFrom_8 : decode cX10_searchFrom 8 = .ok (.return_, 1) := by decide +kernel
theorem dX10_searchFrom_9 : decode cX10_searchFrom 9 = .ok (.aload_n 0, 1) := by decide +kernel
theorem dX10_searchFrom_10 : decode cX10_searchFrom 10 = .ok (.iload_n 1, 1) := by decide +kernel
theorem dX10_searchFrom_11 : decode cX10_searchFrom 11 = .ok (.invokevirtual 43, 3) := by decide +kernel
theorem dX10_searchFrom_14 : decode cX10_searchFrom 14 = .ok (.iconst 0, 1) := by decide +kernel
theorem dX10_searchFrom_15 : decode cX10_searchFrom 15 = .ok (.istore_n 2, 1) := by decide +kernel
theorem dX10_searchFrom_16 : decode cX10_searchFrom 16 = .ok (.iconst 1, 1) := by decide +kernel
theorem dX10_searchFrom_17 : decode cX10_searchFrom 17 = .ok (.istore_n 3, 1) := by decide +kernel
theorem dX10_searchFrom_18 : decode cX10_searchFrom 18 = .ok (.iload_n 3, 1) := by decide +kernel
theorem dX10_searchFrom_19 : decode cX10_searchFrom 19 = .ok (.sipush 2560, 3) := by decide +kernel
theorem dX10_searchFrom_22 : decode cX10_searchFrom 22 = .ok (.if_icmp .gt 66, 3) := by decide +kernel
theorem dX10_searchFrom_25 : decode cX10_searchFrom 25 = .ok (.iload_n 3, 1) := by decide +kernel
theorem dX10_searchFrom_26 : decode cX10_searchFrom 26 = .ok (.iload_n 2, 1) := by decide +kernel
theorem dX10_searchFrom_27 : decode cX10_searchFrom 27 = .ok (.iconst 5, 1) := by decide +kernel
theorem dX10_searchFrom_28 : decode cX10_searchFrom 28 = .ok (.iadd, 1) := by decide +kernel
theorem dX10_searchFrom_29 : decode cX10_searchFrom 29 = .ok (.if_icmp .gt 59, 3) := by decide +kernel
theorem dX10_searchFrom_32 : decode cX10_searchFrom 32 = .ok (.aload_n 0, 1) := by decide +kernel
theorem dX10_searchFrom_33 : decode cX10_searchFrom 33 = .ok (.getfield 47, 3) := by decide +kernel
theorem dX10_searchFrom_36 : decode cX10_searchFrom 36 = .ok (.istore 4, 2) := by decide +kernel
theorem dX10_searchFrom_38 : decode cX10_searchFrom 38 = .ok (.aload_n 0, 1) := by decide +kernel
theorem dX10_searchFrom_39 : decode cX10_searchFrom 39 = .ok (.iload_n 3, 1) := by decide +kernel
theorem dX10_searchFrom_40 : decode cX10_searchFrom 40 = .ok (.invokevirtual 50, 3) := by decide +kernel
theorem dX10_searchFrom_43 : decode cX10_searchFrom 43 = .ok (.aload_n 0, 1) := by decide +kernel
theorem dX10_searchFrom_44 : decode cX10_searchFrom 44 = .ok (.getfield 21, 3) := by decide +kernel
theorem dX10_searchFrom_47 : decode cX10_searchFrom 47 = .ok (.iload_n 3, 1) := by decide +kernel
theorem dX10_searchFrom_48 : decode cX10_searchFrom 48 = .ok (.bipush 6, 2) := by decide +kernel
theorem dX10_searchFrom_50 : decode cX10_searchFrom 50 = .ok (.irem, 1) := by decide +kernel
theorem dX10_searchFrom_51 : decode cX10_searchFrom 51 = .ok (.iload 4, 2) := by decide +kernel
theorem dX10_searchFrom_53 : decode cX10_searchFrom 53 = .ok (.invokestatic 53, 3) := by decide +kernel
theorem dX10_searchFrom_56 : decode cX10_searchFrom 56 = .ok (.aload_n 0, 1) := by decide +kernel
theorem dX10_searchFrom_57 : decode cX10_searchFrom 57 = .ok (.getfield 24, 3) := by decide +kernel
theorem dX10_searchFrom_60 : decode cX10_searchFrom 60 = .ok (.iload_n 3, 1) := by decide +kernel
theorem dX10_searchFrom_61 : decode cX10_searchFrom 61 = .ok (.bipush 6, 2) := by decide +kernel
theorem dX10_searchFrom_63 : decode cX10_searchFrom 63 = .ok (.irem, 1) := by decide +kernel
theorem dX10_searchFrom_64 : decode cX10_searchFrom 64 = .ok (.aload_n 0, 1) := by decide +kernel
theorem dX10_searchFrom_65 : decode cX10_searchFrom 65 = .ok (.getfield 47, 3) := by decide +kernel
theorem dX10_searchFrom_68 : decode cX10_searchFrom 68 = .ok (.invokestatic 53, 3) := by decide +kernel
theorem dX10_searchFrom_71 : decode cX10_searchFrom 71 = .ok (.aload_n 0, 1) := by decide +kernel
theorem dX10_searchFrom_72 : decode cX10_searchFrom 72 = .ok (.getfield 47, 3) := by decide +kernel
theorem dX10_searchFrom_75 : decode cX10_searchFrom 75 = .ok (.iload 4, 2) := by decide +kernel
theorem dX10_searchFrom_77 : decode cX10_searchFrom 77 = .ok (.if_icmp .le 5, 3) := by decide +kernel
theorem dX10_searchFrom_80 : decode cX10_searchFrom 80 = .ok (.iload_n 3, 1) := by decide +kernel
theorem dX10_searchFrom_81 : decode cX10_searchFrom 81 = .ok (.istore_n 2, 1) := by decide +kernel
theorem dX10_searchFrom_82 : decode cX10_searchFrom 82 = .ok (.iinc 3 1, 3) := by decide +kernel
theorem dX10_searchFrom_85 : decode cX10_searchFrom 85 = .ok (.goto (-67), 3) := by decide +kernel
theorem dX10_searchFrom_88 : decode cX10_searchFrom 88 = .ok (.return_, 1) := by decide +kernel
theorem dX10_begin_0 : decode cX10_begin 0 = .ok (.aload_n 0, 1) := by decide +kernel
theorem dX10_begin_1 : decode cX10_begin 1 = .ok (.iload_n 1, 1) := by decide +kernel
theorem dX10_begin_2 : decode cX10_begin 2 = .ok (.putfield 27, 3) := by decide +kernel
theorem dX10_begin_5 : decode cX10_begin 5 = .ok (.aload_n 0, 1) := by decide +kernel
theorem dX10_begin_6 : decode cX10_begin 6 = .ok (.getfield 9, 3) := by decide +kernel
theorem dX10_begin_9 : decode cX10_begin 9 = .ok (.iconst (-1), 1) := by decide +kernel
theorem dX10_begin_10 : decode cX10_begin 10 = .ok (.invokestatic 57, 3) := by decide +kernel
theorem dX10_begin_13 : decode cX10_begin 13 = .ok (.aload_n 0, 1) := by decide +kernel
theorem dX10_begin_14 : decode cX10_begin 14 = .ok (.getfield 15, 3) := by decide +kernel
theorem dX10_begin_17 : decode cX10_begin 17 = .ok (.iconst (-1), 1) := by decide +kernel
theorem dX10_begin_18 : decode cX10_begin 18 = .ok (.invokestatic 57, 3) := by decide +kernel
theorem dX10_begin_21 : decode cX10_begin 21 = .ok (.aload_n 0, 1) := by decide +kernel
theorem dX10_begin_22 : decode cX10_begin 22 = .ok (.getfield 21, 3) := by decide +kernel
theorem dX10_begin_25 : decode cX10_begin 25 = .ok (.iconst 0, 1) := by decide +kernel
theorem dX10_begin_26 : decode cX10_begin 26 = .ok (.invokestatic 57, 3) := by decide +kernel
theorem dX10_begin_29 : decode cX10_begin 29 = .ok (.aload_n 0, 1) := by decide +kernel
theorem dX10_begin_30 : decode cX10_begin 30 = .ok (.getfield 24, 3) := by decide +kernel
theorem dX10_begin_33 : decode cX10_begin 33 = .ok (.iconst 0, 1) := by decide +kernel
theorem dX10_begin_34 : decode cX10_begin 34 = .ok (.invokestatic 57, 3) := by decide +kernel
theorem dX10_begin_37 : decode cX10_begin 37 = .ok (.aload_n 0, 1) := by decide +kernel
theorem dX10_begin_38 : decode cX10_begin 38 = .ok (.getfield 9, 3) := by decide +kernel
theorem dX10_begin_41 : decode cX10_begin 41 = .ok (.iload_n 1, 1) := by decide +kernel
theorem dX10_begin_42 : decode cX10_begin 42 = .ok (.iconst 0, 1) := by decide +kernel
theorem dX10_begin_43 : decode cX10_begin 43 = .ok (.invokestatic 53, 3) := by decide +kernel
theorem dX10_begin_46 : decode cX10_begin 46 = .ok (.aload_n 0, 1) := by decide +kernel
theorem dX10_begin_47 : decode cX10_begin 47 = .ok (.getfield 18, 3) := by decide +kernel
theorem dX10_begin_50 : decode cX10_begin 50 = .ok (.iconst 0, 1) := by decide +kernel
theorem dX10_begin_51 : decode cX10_begin 51 = .ok (.iload_n 1, 1) := by decide +kernel
theorem dX10_begin_52 : decode cX10_begin 52 = .ok (.invokestatic 53, 3) := by decide +kernel
theorem dX10_begin_55 : decode cX10_begin 55 = .ok (.aload_n 0, 1) := by decide +kernel
theorem dX10_begin_56 : decode cX10_begin 56 = .ok (.getfield 24, 3) := by decide +kernel
theorem dX10_begin_59 : decode cX10_begin 59 = .ok (.iconst 0, 1) := by decide +kernel
theorem dX10_begin_60 : decode cX10_begin 60 = .ok (.iconst 1, 1) := by decide +kernel
theorem dX10_begin_61 : decode cX10_begin 61 = .ok (.invokestatic 53, 3) := by decide +kernel
theorem dX10_begin_64 : decode cX10_begin 64 = .ok (.aload_n 0, 1) := by decide +kernel
theorem dX10_begin_65 : decode cX10_begin 65 = .ok (.iconst 1, 1) := by decide +kernel
theorem dX10_begin_66 : decode cX10_begin 66 = .ok (.putfield 47, 3) := by decide +kernel
theorem dX10_begin_69 : decode cX10_begin 69 = .ok (.return_, 1) := by decide +kernel
theorem dX10_addAllOf_0 : decode cX10_addAllOf 0 = .ok (.iconst 0, 1) := by decide +kernel
theorem dX10_addAllOf_1 : decode cX10_addAllOf 1 = .ok (.istore_n 2, 1) := by decide +kernel
theorem dX10_addAllOf_2 : decode cX10_addAllOf 2 = .ok (.iload_n 2, 1) := by decide +kernel
theorem dX10_addAllOf_3 : decode cX10_addAllOf 3 = .ok (.aload_n 0, 1) := by decide +kernel
theorem dX10_addAllOf_4 : decode cX10_addAllOf 4 = .ok (.getfield 31, 3) := by decide +kernel
theorem dX10_addAllOf_7 : decode cX10_addAllOf 7 = .ok (.getfield 61, 3) := by decide +kernel
theorem dX10_addAllOf_10 : decode cX10_addAllOf 10 = .ok (.if_icmp .ge 92, 3) := by decide +kernel
theorem dX10_addAllOf_13 : decode cX10_addAllOf 13 = .ok (.aload_n 0, 1) := by decide +kernel
theorem dX10_addAllOf_14 : decode cX10_addAllOf 14 = .ok (.getfield 35, 3) := by decide +kernel
theorem dX10_addAllOf_17 : decode cX10_addAllOf 17 = .ok (.ifCond .eq 14, 3) := by decide +kernel
theorem dX10_addAllOf_20 : decode cX10_addAllOf 20 = .ok (.aload_n 0, 1) := by decide +kernel
theorem dX10_addAllOf_21 : decode cX10_addAllOf 21 = .ok (.getfield 31, 3) := by decide +kernel
theorem dX10_addAllOf_24 : decode cX10_addAllOf 24 = .ok (.iload_n 2, 1) := by decide +kernel
theorem dX10_addAllOf_25 : decode cX10_addAllOf 25 = .ok (.invokevirtual 66, 3) := by decide +kernel
theorem dX10_addAllOf_28 : decode cX10_addAllOf 28 = .ok (.goto 4, 3) := by decide +kernel
theorem dX10_addAllOf_31 : decode cX10_addAllOf 31 = .ok (.iconst 1, 1) := by decide +kernel
theorem dX10_addAllOf_32 : decode cX10_addAllOf 32 = .ok (.istore_n 3, 1) := by decide +kernel
theorem dX10_addAllOf_33 : decode cX10_addAllOf 33 = .ok (.iload_n 3, 1) := by decide +kernel
theorem dX10_addAllOf_34 : decode cX10_addAllOf 34 = .ok (.iload_n 1, 1) := by decide +kernel
theorem dX10_addAllOf_35 : decode cX10_addAllOf 35 = .ok (.if_icmp .gt 61, 3) := by decide +kernel
theorem dX10_addAllOf_38 : decode cX10_addAllOf 38 = .ok (.iload_n 1, 1) := by decide +kernel
theorem dX10_addAllOf_39 : decode cX10_addAllOf 39 = .ok (.iload_n 3, 1) := by decide +kernel
theorem dX10_addAllOf_40 : decode cX10_addAllOf 40 = .ok (.isub, 1) := by decide +kernel
theorem dX10_addAllOf_41 : decode cX10_addAllOf 41 = .ok (.bipush 6, 2) := by decide +kernel
theorem dX10_addAllOf_43 : decode cX10_addAllOf 43 = .ok (.irem, 1) := by decide +kernel
theorem dX10_addAllOf_44 : decode cX10_addAllOf 44 = .ok (.istore 4, 2) := by decide +kernel
theorem dX10_addAllOf_46 : decode cX10_addAllOf 46 = .ok (.aload_n 0, 1) := by decide +kernel
theorem dX10_addAllOf_47 : decode cX10_addAllOf 47 = .ok (.getfield 24, 3) := by decide +kernel
theorem dX10_addAllOf_50 : decode cX10_addAllOf 50 = .ok (.iload 4, 2) := by decide +kernel
theorem dX10_addAllOf_52 : decode cX10_addAllOf 52 = .ok (.invokestatic 39, 3) := by decide +kernel
theorem dX10_addAllOf_55 : decode cX10_addAllOf 55 = .ok (.istore 5, 2) := by decide +kernel
theorem dX10_addAllOf_57 : decode cX10_addAllOf 57 = .ok (.aload_n 0, 1) := by decide +kernel
theorem dX10_addAllOf_58 : decode cX10_addAllOf 58 = .ok (.getfield 21, 3) := by decide +kernel
theorem dX10_addAllOf_61 : decode cX10_addAllOf 61 = .ok (.iload 4, 2) := by decide +kernel
theorem dX10_addAllOf_63 : decode cX10_addAllOf 63 = .ok (.invokestatic 39, 3) := by decide +kernel
theorem dX10_addAllOf_66 : decode cX10_addAllOf 66 = .ok (.istore 6, 2) := by decide +kernel
theorem dX10_addAllOf_68 : decode cX10_addAllOf 68 = .ok (.iload 6, 2) := by decide +kernel
theorem dX10_addAllOf_70 : decode cX10_addAllOf 70 = .ok (.iload 5, 2) := by decide +kernel
theorem dX10_addAllOf_72 : decode cX10_addAllOf 72 = .ok (.if_icmp .ge 24, 3) := by decide +kernel
theorem dX10_addAllOf_75 : decode cX10_addAllOf 75 = .ok (.aload_n 0, 1) := by decide +kernel
theorem dX10_addAllOf_76 : decode cX10_addAllOf 76 = .ok (.aload_n 0, 1) := by decide +kernel
theorem dX10_addAllOf_77 : decode cX10_addAllOf 77 = .ok (.getfield 18, 3) := by decide +kernel
theorem dX10_addAllOf_80 : decode cX10_addAllOf 80 = .ok (.iload 6, 2) := by decide +kernel
theorem dX10_addAllOf_82 : decode cX10_addAllOf 82 = .ok (.invokestatic 39, 3) := by decide +kernel
theorem dX10_addAllOf_85 : decode cX10_addAllOf 85 = .ok (.iload_n 2, 1) := by decide +kernel
theorem dX10_addAllOf_86 : decode cX10_addAllOf 86 = .ok (.iload_n 1, 1) := by decide +kernel
theorem dX10_addAllOf_87 : decode cX10_addAllOf 87 = .ok (.invokevirtual 70, 3) := by decide +kernel
theorem dX10_addAllOf_90 : decode cX10_addAllOf 90 = .ok (.iinc 6 1, 3) := by decide +kernel
theorem dX10_addAllOf_93 : decode cX10_addAllOf 93 = .ok (.goto (-25), 3) := by decide +kernel
theorem dX10_addAllOf_96 : decode cX10_addAllOf 96 = .ok (.iinc 2 1, 3) := by decide +kernel
theorem dX10_addAllOf_99 : decode cX10_addAllOf 99 = .ok (.goto (-97), 3) := by decide +kernel
theorem dX10_addAllOf_102 : decode cX10_addAllOf 102 = .ok (.return_, 1) := by decide +kernel
theorem dX10_addLoan_0 : decode cX10_addLoan 0 = .ok (.aload_n 0, 1) := by decide +kernel
theorem dX10_addLoan_1 : decode cX10_addLoan 1 = .ok (.getfield 31, 3) := by decide +kernel
theorem dX10_addLoan_4 : decode cX10_addLoan 4 = .ok (.iload_n 2, 1) := by decide +kernel
theorem dX10_addLoan_5 : decode cX10_addLoan 5 = .ok (.iload_n 1, 1) := by decide +kernel
theorem dX10_addLoan_6 : decode cX10_addLoan 6 = .ok (.invokevirtual 74, 3) := by decide +kernel
theorem dX10_addLoan_9 : decode cX10_addLoan 9 = .ok (.istore 4, 2) := by decide +kernel
theorem dX10_addLoan_11 : decode cX10_addLoan 11 = .ok (.iload_n 1, 1) := by decide +kernel
theorem dX10_addLoan_12 : decode cX10_addLoan 12 = .ok (.aload_n 0, 1) := by decide +kernel
theorem dX10_addLoan_13 : decode cX10_addLoan 13 = .ok (.getfield 27, 3) := by decide +kernel
theorem dX10_addLoan_16 : decode cX10_addLoan 16 = .ok (.if_icmp .ne 7, 3) := by decide +kernel
theorem dX10_addLoan_19 : decode cX10_addLoan 19 = .ok (.iload_n 2, 1) := by decide +kernel
theorem dX10_addLoan_20 : decode cX10_addLoan 20 = .ok (.goto 11, 3) := by decide +kernel
theorem dX10_addLoan_23 : decode cX10_addLoan 23 = .ok (.aload_n 0, 1) := by decide +kernel
theorem dX10_addLoan_24 : decode cX10_addLoan 24 = .ok (.getfield 15, 3) := by decide +kernel
theorem dX10_addLoan_27 : decode cX10_addLoan 27 = .ok (.iload_n 1, 1) := by decide +kernel
theorem dX10_addLoan_28 : decode cX10_addLoan 28 = .ok (.invokestatic 39, 3) := by decide +kernel
theorem dX10_addLoan_31 : decode cX10_addLoan 31 = .ok (.istore 5, 2) := by decide +kernel
theorem dX10_addLoan_33 : decode cX10_addLoan 33 = .ok (.aload_n 0, 1) := by decide +kernel
theorem dX10_addLoan_34 : decode cX10_addLoan 34 = .ok (.getfield 9, 3) := by decide +kernel
theorem dX10_addLoan_37 : decode cX10_addLoan 37 = .ok (.iload 4, 2) := by decide +kernel
theorem dX10_addLoan_39 : decode cX10_addLoan 39 = .ok (.invokestatic 39, 3) := by decide +kernel
theorem dX10_addLoan_42 : decode cX10_addLoan 42 = .ok (.istore 6, 2) := by decide +kernel
theorem dX10_addLoan_44 : decode cX10_addLoan 44 = .ok (.iload 6, 2) := by decide +kernel
theorem dX10_addLoan_46 : decode cX10_addLoan 46 = .ok (.iconst (-1), 1) := by decide +kernel
theorem dX10_addLoan_47 : decode cX10_addLoan 47 = .ok (.if_icmp .ne 50, 3) := by decide +kernel
theorem dX10_addLoan_50 : decode cX10_addLoan 50 = .ok (.aload_n 0, 1) := by decide +kernel
theorem dX10_addLoan_51 : decode cX10_addLoan 51 = .ok (.getfield 9, 3) := by decide +kernel
theorem dX10_addLoan_54 : decode cX10_addLoan 54 = .ok (.iload 4, 2) := by decide +kernel
theorem dX10_addLoan_56 : decode cX10_addLoan 56 = .ok (.iload_n 3, 1) := by decide +kernel
theorem dX10_addLoan_57 : decode cX10_addLoan 57 = .ok (.invokestatic 53, 3) := by decide +kernel
theorem dX10_addLoan_60 : decode cX10_addLoan 60 = .ok (.aload_n 0, 1) := by decide +kernel
theorem dX10_addLoan_61 : decode cX10_addLoan 61 = .ok (.getfield 15, 3) := by decide +kernel
theorem dX10_addLoan_64 : decode cX10_addLoan 64 = .ok (.iload 4, 2) := by decide +kernel
theorem dX10_addLoan_66 : decode cX10_addLoan 66 = .ok (.iload 5, 2) := by decide +kernel
theorem dX10_addLoan_68 : decode cX10_addLoan 68 = .ok (.invokestatic 53, 3) := by decide +kernel
theorem dX10_addLoan_71 : decode cX10_addLoan 71 = .ok (.aload_n 0, 1) := by decide +kernel
theorem dX10_addLoan_72 : decode cX10_addLoan 72 = .ok (.getfield 18, 3) := by decide +kernel
theorem dX10_addLoan_75 : decode cX10_addLoan 75 = .ok (.aload_n 0, 1) := by decide +kernel
theorem dX10_addLoan_76 : decode cX10_addLoan 76 = .ok (.getfield 47, 3) := by decide +kernel
theorem dX10_addLoan_79 : decode cX10_addLoan 79 = .ok (.iload 4, 2) := by decide +kernel
theorem dX10_addLoan_81 : decode cX10_addLoan 81 = .ok (.invokestatic 53, 3) := by decide +kernel
theorem dX10_addLoan_84 : decode cX10_addLoan 84 = .ok (.aload_n 0, 1) := by decide +kernel
theorem dX10_addLoan_85 : decode cX10_addLoan 85 = .ok (.dup, 1) := by decide +kernel
theorem dX10_addLoan_86 : decode cX10_addLoan 86 = .ok (.getfield 47, 3) := by decide +kernel
theorem dX10_addLoan_89 : decode cX10_addLoan 89 = .ok (.iconst 1, 1) := by decide +kernel
theorem dX10_addLoan_90 : decode cX10_addLoan 90 = .ok (.iadd, 1) := by decide +kernel
theorem dX10_addLoan_91 : decode cX10_addLoan 91 = .ok (.putfield 47, 3) := by decide +kernel
theorem dX10_addLoan_94 : decode cX10_addLoan 94 = .ok (.goto 34, 3) := by decide +kernel
theorem dX10_addLoan_97 : decode cX10_addLoan 97 = .ok (.iload 6, 2) := by decide +kernel
theorem dX10_addLoan_99 : decode cX10_addLoan 99 = .ok (.iload_n 3, 1) := by decide +kernel
theorem dX10_addLoan_100 : decode cX10_addLoan 100 = .ok (.if_icmp .ne 28, 3) := by decide +kernel
theorem dX10_addLoan_103 : decode cX10_addLoan 103 = .ok (.iload 5, 2) := by decide +kernel
theorem dX10_addLoan_105 : decode cX10_addLoan 105 = .ok (.aload_n 0, 1) := by decide +kernel
theorem dX10_addLoan_106 : decode cX10_addLoan 106 = .ok (.getfield 15, 3) := by decide +kernel
theorem dX10_addLoan_109 : decode cX10_addLoan 109 = .ok (.iload 4, 2) := by decide +kernel
theorem dX10_addLoan_111 : decode cX10_addLoan 111 = .ok (.invokestatic 39, 3) := by decide +kernel
theorem dX10_addLoan_114 : decode cX10_addLoan 114 = .ok (.if_icmp .ge 14, 3) := by decide +kernel
theorem dX10_addLoan_117 : decode cX10_addLoan 117 = .ok (.aload_n 0, 1) := by decide +kernel
theorem dX10_addLoan_118 : decode cX10_addLoan 118 = .ok (.getfield 15, 3) := by decide +kernel
theorem dX10_addLoan_121 : decode cX10_addLoan 121 = .ok (.iload 4, 2) := by decide +kernel
theorem dX10_addLoan_123 : decode cX10_addLoan 123 = .ok (.iload 5, 2) := by decide +kernel
theorem dX10_addLoan_125 : decode cX10_addLoan 125 = .ok (.invokestatic 53, 3) := by decide +kernel
theorem dX10_addLoan_128 : decode cX10_addLoan 128 = .ok (.return_, 1) := by decide +kernel
theorem dX11_init_0 : decode cX11_init 0 = .ok (.aload_n 0, 1) := by decide +kernel
theorem dX11_init_1 : decode cX11_init 1 = .ok (.invokespecial 1, 3) := by decide +kernel
theorem dX11_init_4 : decode cX11_init 4 = .ok (.aload_n 0, 1) := by decide +kernel
theorem dX11_init_5 : decode cX11_init 5 = .ok (.new 7, 3) := by decide +kernel
theorem dX11_init_8 : decode cX11_init 8 = .ok (.dup, 1) := by decide +kernel
theorem dX11_init_9 : decode cX11_init 9 = .ok (.invokespecial 9, 3) := by decide +kernel
theorem dX11_init_12 : decode cX11_init 12 = .ok (.putfield 10, 3) := by decide +kernel
theorem dX11_init_15 : decode cX11_init 15 = .ok (.aload_n 0, 1) := by decide +kernel
theorem dX11_init_16 : decode cX11_init 16 = .ok (.new 16, 3) := by decide +kernel
theorem dX11_init_19 : decode cX11_init 19 = .ok (.dup, 1) := by decide +kernel
theorem dX11_init_20 : decode cX11_init 20 = .ok (.invokespecial 18, 3) := by decide +kernel
theorem dX11_init_23 : decode cX11_init 23 = .ok (.putfield 19, 3) := by decide +kernel
theorem dX11_init_26 : decode cX11_init 26 = .ok (.aload_n 0, 1) := by decide +kernel
theorem dX11_init_27 : decode cX11_init 27 = .ok (.new 23, 3) := by decide +kernel
theorem dX11_init_30 : decode cX11_init 30 = .ok (.dup, 1) := by decide +kernel
theorem dX11_init_31 : decode cX11_init 31 = .ok (.invokespecial 25, 3) := by decide +kernel
theorem dX11_init_34 : decode cX11_init 34 = .ok (.putfield 26, 3) := by decide +kernel
theorem dX11_init_37 : decode cX11_init 37 = .ok (.aload_n 0, 1) := by decide +kernel
theorem dX11_init_38 : decode cX11_init 38 = .ok (.new 23, 3) := by decide +kernel
theorem dX11_init_41 : decode cX11_init 41 = .ok (.dup, 1) := by decide +kernel
theorem dX11_init_42 : decode cX11_init 42 = .ok (.invokespecial 25, 3) := by decide +kernel
theorem dX11_init_45 : decode cX11_init 45 = .ok (.putfield 30, 3) := by decide +kernel
theorem dX11_init_48 : decode cX11_init 48 = .ok (.aload_n 0, 1) := by decide +kernel
theorem dX11_init_49 : decode cX11_init 49 = .ok (.new 33, 3) := by decide +kernel
theorem dX11_init_52 : decode cX11_init 52 = .ok (.dup, 1) := by decide +kernel
theorem dX11_init_53 : decode cX11_init 53 = .ok (.aload_n 0, 1) := by decide +kernel
theorem dX11_init_54 : decode cX11_init 54 = .ok (.getfield 19, 3) := by decide +kernel
theorem dX11_init_57 : decode cX11_init 57 = .ok (.iconst 0, 1) := by decide +kernel
theorem dX11_init_58 : decode cX11_init 58 = .ok (.invokespecial 35, 3) := by decide +kernel
theorem dX11_init_61 : decode cX11_init 61 = .ok (.putfield 38, 3) := by decide +kernel
theorem dX11_init_64 : decode cX11_init 64 = .ok (.aload_n 0, 1) := by decide +kernel
theorem dX11_init_65 : decode cX11_init 65 = .ok (.new 33, 3) := by decide +kernel
theorem dX11_init_68 : decode cX11_init 68 = .ok (.dup, 1) := by decide +kernel
theorem dX11_init_69 : decode cX11_init 69 = .ok (.aload_n 0, 1) := by decide +kernel
theorem dX11_init_70 : decode cX11_init 70 = .ok (.getfield 19, 3) := by decide +kernel
theorem dX11_init_73 : decode cX11_init 73 = .ok (.iconst 1, 1) := by decide +kernel
theorem dX11_init_74 : decode cX11_init 74 = .ok (.invokespecial 35, 3) := by decide +kernel
theorem dX11_init_77 : decode cX11_init 77 = .ok (.putfield 42, 3) := by decide +kernel
theorem dX11_init_80 : decode cX11_init 80 = .ok (.aload_n 0, 1) := by decide +kernel
theorem dX11_init_81 : decode cX11_init 81 = .ok (.new 45, 3) := by decide +kernel
theorem dX11_init_84 : decode cX11_init 84 = .ok (.dup, 1) := by decide +kernel
theorem dX11_init_85 : decode cX11_init 85 = .ok (.aload_n 0, 1) := by decide +kernel
theorem dX11_init_86 : decode cX11_init 86 = .ok (.getfield 19, 3) := by decide +kernel
theorem dX11_init_89 : decode cX11_init 89 = .ok (.invokespecial 47, 3) := by decide +kernel
theorem dX11_init_92 : decode cX11_init 92 = .ok (.putfield 50, 3) := by decide +kernel
theorem dX11_init_95 : decode cX11_init 95 = .ok (.aload_n 0, 1) := by decide +kernel
theorem dX11_init_96 : decode cX11_init 96 = .ok (.new 54, 3) := by decide +kernel
theorem dX11_init_99 : decode cX11_init 99 = .ok (.dup, 1) := by decide +kernel
theorem dX11_init_100 : decode cX11_init 100 = .ok (.aload_n 0, 1) := by decide +kernel
theorem dX11_init_101 : decode cX11_init 101 = .ok (.getfield 19, 3) := by decide +kernel
theorem dX11_init_104 : decode cX11_init 104 = .ok (.invokespecial 56, 3) := by decide +kernel
theorem dX11_init_107 : decode cX11_init 107 = .ok (.putfield 57, 3) := by decide +kernel
theorem dX11_init_110 : decode cX11_init 110 = .ok (.return_, 1) := by decide +kernel
theorem dX11_letter_0 : decode cX11_letter 0 = .ok (.iload_n 1, 1) := by decide +kernel
theorem dX11_letter_1 : decode cX11_letter 1 = .ok (.bipush 32, 2) := by decide +kernel
theorem dX11_letter_3 : decode cX11_letter 3 = .ok (.if_icmp .lt 9, 3) := by decide +kernel
theorem dX11_letter_6 : decode cX11_letter 6 = .ok (.iload_n 1, 1) := by decide +kernel
theorem dX11_letter_7 : decode cX11_letter 7 = .ok (.bipush 126, 2) := by decide +kernel
theorem dX11_letter_9 : decode cX11_letter 9 = .ok (.if_icmp .le 6, 3) := by decide +kernel
theorem dX11_letter_12 : decode cX11_letter 12 = .ok (.bipush (-102), 2) := by decide +kernel
theorem dX11_letter_14 : decode cX11_letter 14 = .ok (.ireturn, 1) := by decide +kernel
theorem dX11_letter_15 : decode cX11_letter 15 = .ok (.aload_n 0, 1) := by decide +kernel
theorem dX11_letter_16 : decode cX11_letter 16 = .ok (.getfield 10, 3) := by decide +kernel
theorem dX11_letter_19 : decode cX11_letter 19 = .ok (.getfield 61, 3) := by decide +kernel
theorem dX11_letter_22 : decode cX11_letter 22 = .ok (.bipush 30, 2) := by decide +kernel
theorem dX11_letter_24 : decode cX11_letter 24 = .ok (.if_icmp .lt 6, 3) := by decide +kernel
theorem dX11_letter_27 : decode cX11_letter 27 = .ok (.bipush (-104), 2) := by decide +kernel
theorem dX11_letter_29 : decode cX11_letter 29 = .ok (.ireturn, 1) := by decide +kernel
theorem dX11_letter_30 : decode cX11_letter 30 = .ok (.aload_n 0, 1) := by decide +kernel
theorem dX11_letter_31 : decode cX11_letter 31 = .ok (.getfield 10, 3) := by decide +kernel
theorem dX11_letter_34 : decode cX11_letter 34 = .ok (.iload_n 1, 1) := by decide +kernel
theorem dX11_letter_35 : decode cX11_letter 35 = .ok (.invokevirtual 65, 3) := by decide +kernel
theorem dX11_letter_38 : decode cX11_letter 38 = .ok (.aload_n 0, 1) := by decide +kernel
theorem dX11_letter_39 : decode cX11_letter 39 = .ok (.getfield 10, 3) := by decide +kernel
theorem dX11_letter_42 : decode cX11_letter 42 = .ok (.getfield 61, 3) := by decide +kernel
theorem dX11_letter_45 : decode cX11_letter 45 = .ok (.ireturn, 1) := by decide +kernel
theorem dX11_blank_0 : decode cX11_blank 0 = .ok (.aload_n 0, 1) := by decide +kernel
theorem dX11_blank_1 : decode cX11_blank 1 = .ok (.getfield 10, 3) := by decide +kernel
theorem dX11_blank_4 : decode cX11_blank 4 = .ok (.getfield 61, 3) := by decide +kernel
theorem dX11_blank_7 : decode cX11_blank 7 = .ok (.istore_n 1, 1) := by decide +kernel
theorem dX11_blank_8 : decode cX11_blank 8 = .ok (.aload_n 0, 1) := by decide +kernel
theorem dX11_blank_9 : decode cX11_blank 9 = .ok (.getfield 10, 3) := by decide +kernel
theorem dX11_blank_12 : decode cX11_blank 12 = .ok (.iconst 0, 1) := by decide +kernel
theorem dX11_blank_13 : decode cX11_blank 13 = .ok (.putfield 61, 3) := by decide +kernel
theorem dX11_blank_16 : decode cX11_blank 16 = .ok (.iload_n 1, 1) := by decide +kernel
theorem dX11_blank_17 : decode cX11_blank 17 = .ok (.ireturn, 1) := by decide +kernel
theorem dX11_fault_0 : decode cX11_fault 0 = .ok (.iload_n 1, 1) := by decide +kernel
theorem dX11_fault_1 : decode cX11_fault 1 = .ok (.ifCond .ne 11, 3) := by decide +kernel
theorem dX11_fault_4 : decode cX11_fault 4 = .ok (.aload_n 0, 1) := by decide +kernel
theorem dX11_fault_5 : decode cX11_fault 5 = .ok (.getfield 10, 3) := by decide +kernel
theorem dX11_fault_8 : decode cX11_fault 8 = .ok (.invokevirtual 69, 3) := by decide +kernel
theorem dX11_fault_11 : decode cX11_fault 11 = .ok (.ireturn, 1) := by decide +kernel
theorem dX11_fault_12 : decode cX11_fault 12 = .ok (.iload_n 1, 1) := by decide +kernel
theorem dX11_fault_13 : decode cX11_fault 13 = .ok (.iconst 1, 1) := by decide +kernel
theorem dX11_fault_14 : decode cX11_fault 14 = .ok (.if_icmp .ne 18, 3) := by decide +kernel
theorem dX11_fault_17 : decode cX11_fault 17 = .ok (.aload_n 0, 1) := by decide +kernel
theorem dX11_fault_18 : decode cX11_fault 18 = .ok (.getfield 10, 3) := by decide +kernel
theorem dX11_fault_21 : decode cX11_fault 21 = .ok (.aload_n 0, 1) := by decide +kernel
theorem dX11_fault_22 : decode cX11_fault 22 = .ok (.getfield 19, 3) := by decide +kernel
theorem dX11_fault_25 : decode cX11_fault 25 = .ok (.getfield 73, 3) := by decide +kernel
theorem dX11_fault_28 : decode cX11_fault 28 = .ok (.invokevirtual 76, 3) := by decide +kernel
theorem dX11_fault_31 : decode cX11_fault 31 = .ok (.ireturn, 1) := by decide +kernel
theorem dX11_fault_32 : decode cX11_fault 32 = .ok (.bipush (-102), 2) := by decide +kernel
theorem dX11_fault_34 : decode cX11_fault 34 = .ok (.ireturn, 1) := by decide +kernel
theorem dX11_town_0 : decode cX11_town 0 = .ok (.aload_n 0, 1) := by decide +kernel
theorem dX11_town_1 : decode cX11_town 1 = .ok (.getfield 10, 3) := by decide +kernel
theorem dX11_town_4 : decode cX11_town 4 = .ok (.invokevirtual 80, 3) := by decide +kernel
theorem dX11_town_7 : decode cX11_town 7 = .ok (.ifCond .ne 6, 3) := by decide +kernel
theorem dX11_town_10 : decode cX11_town 10 = .ok (.bipush (-103), 2) := by decide +kernel
theorem dX11_town_12 : decode cX11_town 12 = .ok (.ireturn, 1) := by decide +kernel
theorem dX11_town_13 : decode cX11_town 13 = .ok (.aload_n 0, 1) := by decide +kernel
theorem dX11_town_14 : decode cX11_town 14 = .ok (.getfield 19, 3) := by decide +kernel
theorem dX11_town_17 : decode cX11_town 17 = .ok (.aload_n 0, 1) := by decide +kernel
theorem dX11_town_18 : decode cX11_town 18 = .ok (.getfield 10, 3) := by decide +kernel
theorem dX11_town_21 : decode cX11_town 21 = .ok (.invokevirtual 84, 3) := by decide +kernel
theorem dX11_town_24 : decode cX11_town 24 = .ok (.aload_n 0, 1) := by decide +kernel
theorem dX11_town_25 : decode cX11_town 25 = .ok (.getfield 10, 3) := by decide +kernel
theorem dX11_town_28 : decode cX11_town 28 = .ok (.iconst 0, 1) := by decide +kernel
theorem dX11_town_29 : decode cX11_town 29 = .ok (.putfield 61, 3) := by decide +kernel
theorem dX11_town_32 : decode cX11_town 32 = .ok (.aload_n 0, 1) := by decide +kernel
theorem dX11_town_33 : decode cX11_town 33 = .ok (.getfield 26, 3) := by decide +kernel
theorem dX11_town_36 : decode cX11_town 36 = .ok (.invokevirtual 88, 3) := by decide +kernel
theorem dX11_town_39 : decode cX11_town 39 = .ok (.aload_n 0, 1) := by decide +kernel
theorem dX11_town_40 : decode cX11_town 40 = .ok (.getfield 38, 3) := by decide +kernel
theorem dX11_town_43 : decode cX11_town 43 = .ok (.invokevirtual 91, 3) := by decide +kernel
theorem dX11_town_46 : decode cX11_town 46 = .ok (.aload_n 0, 1) := by decide +kernel
theorem dX11_town_47 : decode cX11_town 47 = .ok (.getfield 42, 3) := by decide +kernel
theorem dX11_town_50 : decode cX11_town 50 = .ok (.invokevirtual 91, 3) := by decide +kernel
theorem dX11_town_53 : decode cX11_town 53 = .ok (.aload_n 0, 1) := by decide +kernel
theorem dX11_town_54 : decode cX11_town 54 = .ok (.iconst 0, 1) := by decide +kernel
theorem dX11_town_55 : decode cX11_town 55 = .ok (.putfield 94, 3) := by decide +kernel
theorem dX11_town_58 : decode cX11_town 58 = .ok (.aload_n 0, 1) := by decide +kernel
theorem dX11_town_59 : decode cX11_town 59 = .ok (.dup, 1) := by decide +kernel
theorem dX11_town_60 : decode cX11_town 60 = .ok (.getfield 98, 3) := by decide +kernel
theorem dX11_town_63 : decode cX11_town 63 = .ok (.iconst 1, 1) := by decide +kernel
theorem dX11_town_64 : decode cX11_town 64 = .ok (.iadd, 1) := by decide +kernel
theorem dX11_town_65 : decode cX11_town 65 = .ok (.putfield 98, 3) := by decide +kernel
theorem dX11_town_68 : decode cX11_town 68 = .ok (.aload_n 0, 1) := by decide +kernel
theorem dX11_town_69 : decode cX11_town 69 = .ok (.getfield 19, 3) := by decide +kernel
theorem dX11_town_72 : decode cX11_town 72 = .ok (.getfield 73, 3) := by decide +kernel
theorem dX11_town_75 : decode cX11_town 75 = .ok (.ireturn, 1) := by decide +kernel
theorem dX11_about_0 : decode cX11_about 0 = .ok (.aload_n 0, 1) := by decide +kernel
theorem dX11_about_1 : decode cX11_about 1 = .ok (.getfield 19, 3) := by decide +kernel
theorem dX11_about_4 : decode cX11_about 4 = .ok (.iload_n 1, 1) := by decide +kernel
theorem dX11_about_5 : decode cX11_about 5 = .ok (.invokevirtual 101, 3) := by decide +kernel
theorem dX11_about_8 : decode cX11_about 8 = .ok (.astore_n 3, 1) := by decide +kernel
theorem dX11_about_9 : decode cX11_about 9 = .ok (.aload_n 3, 1) := by decide +kernel
theorem dX11_about_10 : decode cX11_about 10 = .ok (.ifnonnull 6, 3) := by decide +kernel
theorem dX11_about_13 : decode cX11_about 13 = .ok (.bipush (-101), 2) := by decide +kernel
theorem dX11_about_15 : decode cX11_about 15 = .ok (.ireturn, 1) := by decide +kernel
theorem dX11_about_16 : decode cX11_about 16 = .ok (.iload_n 2, 1) := by decide +kernel
theorem dX11_about_17 : decode cX11_about 17 = .ok (.tableswitch 77 0 5 #[39, 44, 49, 54, 59, 68], 39) := by decide +kernel
theorem dX11_about_56 : decode cX11_about 56 = .ok (.aload_n 3, 1) := by decide +kernel
theorem dX11_about_57 : decode cX11_about 57 = .ok (.invokevirtual 105, 3) := by decide +kernel
theorem dX11_about_60 : decode cX11_about 60 = .ok (.ireturn, 1) := by decide +kernel
theorem dX11_about_61 : decode cX11_about 61 = .ok (.aload_n 3, 1) := by decide +kernel
theorem dX11_about_62 : decode cX11_about 62 = .ok (.getfield 110, 3) := by decide +kernel
theorem dX11_about_65 : decode cX11_about 65 = .ok (.ireturn, 1) := by decide +kernel
theorem dX11_about_66 : decode cX11_about 66 = .ok (.aload_n 3, 1) := by decide +kernel
theorem dX11_about_67 : decode cX11_about 67 = .ok (.getfield 113, 3) := by decide +kernel
theorem dX11_about_70 : decode cX11_about 70 = .ok (.ireturn, 1) := by decide +kernel
theorem dX11_about_71 : decode cX11_about 71 = .ok (.aload_n 3, 1) := by decide +kernel
theorem dX11_about_72 : decode cX11_about 72 = .ok (.getfield 116, 3) := by decide +kernel
theorem dX11_about_75 : decode cX11_about 75 = .ok (.ireturn, 1) := by decide +kernel
theorem dX11_about_76 : decode cX11_about 76 = .ok (.aload_n 0, 1) := by decide +kernel
theorem dX11_about_77 : decode cX11_about 77 = .ok (.getfield 26, 3) := by decide +kernel
theorem dX11_about_80 : decode cX11_about 80 = .ok (.iload_n 1, 1) := by decide +kernel
theorem dX11_about_81 : decode cX11_about 81 = .ok (.invokevirtual 119, 3) := by decide +kernel
theorem dX11_about_84 : decode cX11_about 84 = .ok (.ireturn, 1) := by decide +kernel
theorem dX11_about_85 : decode cX11_about 85 = .ok (.aload_n 0, 1) := by decide +kernel
theorem dX11_about_86 : decode cX11_about 86 = .ok (.getfield 26, 3) := by decide +kernel
theorem dX11_about_89 : decode cX11_about 89 = .ok (.iload_n 1, 1) := by decide +kernel
theorem dX11_about_90 : decode cX11_about 90 = .ok (.invokevirtual 122, 3) := by decide +kernel
theorem dX11_about_93 : decode cX11_about 93 = .ok (.ireturn, 1) := by decide +kernel
theorem dX11_about_94 : decode cX11_about 94 = .ok (.bipush (-102), 2) := by decide +kernel
theorem dX11_about_96 : decode cX11_about 96 = .ok (.ireturn, 1) := by decide +kernel
theorem dX11_as_0 : decode cX11_as 0 = .ok (.aload_n 0, 1) := by decide +kernel
theorem dX11_as_1 : decode cX11_as 1 = .ok (.getfield 19, 3) := by decide +kernel
theorem dX11_as_4 : decode cX11_as 4 = .ok (.iload_n 1, 1) := by decide +kernel
theorem dX11_as_5 : decode cX11_as 5 = .ok (.invokevirtual 101, 3) := by decide +kernel
theorem dX11_as_8 : decode cX11_as 8 = .ok (.astore_n 3, 1) := by decide +kernel
theorem dX11_as_9 : decode cX11_as 9 = .ok (.aload_n 3, 1) := by decide +kernel
theorem dX11_as_10 : decode cX11_as 10 = .ok (.ifnonnull 6, 3) := by decide +kernel
theorem dX11_as_13 : decode cX11_as 13 = .ok (.bipush (-101), 2) := by decide +kernel
theorem dX11_as_15 : decode cX11_as 15 = .ok (.ireturn, 1) := by decide +kernel
theorem dX11_as_16 : decode cX11_as 16 = .ok (.iload_n 2, 1) := by decide +kernel
theorem dX11_as_17 : decode cX11_as 17 = .ok (.ifCond .lt 8, 3) := by decide +kernel
theorem dX11_as_20 : decode cX11_as 20 = .ok (.iload_n 2, 1) := by decide +kernel
theorem dX11_as_21 : decode cX11_as 21 = .ok (.iconst 4, 1) := by decide +kernel
theorem dX11_as_22 : decode cX11_as 22 = .ok (.if_icmp .le 6, 3) := by decide +kernel
theorem dX11_as_25 : decode cX11_as 25 = .ok (.bipush (-102), 2) := by decide +kernel
theorem dX11_as_27 : decode cX11_as 27 = .ok (.ireturn, 1) := by decide +kernel
theorem dX11_as_28 : decode cX11_as 28 = .ok (.aload_n 3, 1) := by decide +kernel
theorem dX11_as_29 : decode cX11_as 29 = .ok (.iload_n 2, 1) := by decide +kernel
theorem dX11_as_30 : decode cX11_as 30 = .ok (.invokestatic 125, 3) := by decide +kernel
theorem dX11_as_33 : decode cX11_as 33 = .ok (.ifCond .eq 7, 3) := by decide +kernel
theorem dX11_as_36 : decode cX11_as 36 = .ok (.iload_n 1, 1) := by decide +kernel
theorem dX11_as_37 : decode cX11_as 37 = .ok (.goto 4, 3) := by decide +kernel
theorem dX11_as_40 : decode cX11_as 40 = .ok (.iconst (-1), 1) := by decide +kernel
theorem dX11_as_41 : decode cX11_as 41 = .ok (.ireturn, 1) := by decide +kernel
theorem dX11_thing_0 : decode cX11_thing 0 = .ok (.iload_n 1, 1) := by decide +kernel
theorem dX11_thing_1 : decode cX11_thing 1 = .ok (.invokestatic 129, 3) := by decide +kernel
theorem dX11_thing_4 : decode cX11_thing 4 = .ok (.ifCond .ne 6, 3) := by decide +kernel
theorem dX11_thing_7 : decode cX11_thing 7 = .ok (.bipush (-102), 2) := by decide +kernel
theorem dX11_thing_9 : decode cX11_thing 9 = .ok (.ireturn, 1) := by decide +kernel
theorem dX11_thing_10 : decode cX11_thing 10 = .ok (.aload_n 0, 1) := by decide +kernel
theorem dX11_thing_11 : decode cX11_thing 11 = .ok (.getfield 19, 3) := by decide +kernel
theorem dX11_thing_14 : decode cX11_thing 14 = .ok (.getfield 73, 3) := by decide +kernel
theorem dX11_thing_17 : decode cX11_thing 17 = .ok (.ifCond .ne 6, 3) := by decide +kernel
theorem dX11_thing_20 : decode cX11_thing 20 = .ok (.bipush (-103), 2) := by decide +kernel
theorem dX11_thing_22 : decode cX11_thing 22 = .ok (.ireturn, 1) := by decide +kernel
theorem dX11_thing_23 : decode cX11_thing 23 = .ok (.aload_n 0, 1) := by decide +kernel
theorem dX11_thing_24 : decode cX11_thing 24 = .ok (.getfield 26, 3) := by decide +kernel
theorem dX11_thing_27 : decode cX11_thing 27 = .ok (.getfield 133, 3) := by decide +kernel
theorem dX11_thing_30 : decode cX11_thing 30 = .ok (.iconst 4, 1) := by decide +kernel
theorem dX11_thing_31 : decode cX11_thing 31 = .ok (.if_icmp .lt 6, 3) := by decide +kernel
theorem dX11_thing_34 : decode cX11_thing 34 = .ok (.bipush (-104), 2) := by decide +kernel
theorem dX11_thing_36 : decode cX11_thing 36 = .ok (.ireturn, 1) := by decide +kernel
theorem dX11_thing_37 : decode cX11_thing 37 = .ok (.aload_n 0, 1) := by decide +kernel
theorem dX11_thing_38 : decode cX11_thing 38 = .ok (.getfield 26, 3) := by decide +kernel
theorem dX11_thing_41 : decode cX11_thing 41 = .ok (.iload_n 1, 1) := by decide +kernel
theorem dX11_thing_42 : decode cX11_thing 42 = .ok (.invokevirtual 134, 3) := by decide +kernel
theorem dX11_thing_45 : decode cX11_thing 45 = .ok (.ireturn, 1) := by decide +kernel
theorem dX11_thingOf_0 : decode cX11_thingOf 0 = .ok (.aload_n 0, 1) := by decide +kernel
theorem dX11_thingOf_1 : decode cX11_thingOf 1 = .ok (.getfield 26, 3) := by decide +kernel
theorem dX11_thingOf_4 : decode cX11_thingOf 4 = .ok (.iload_n 1, 1) := by decide +kernel
theorem dX11_thingOf_5 : decode cX11_thingOf 5 = .ok (.invokevirtual 136, 3) := by decide +kernel
theorem dX11_thingOf_8 : decode cX11_thingOf 8 = .ok (.ifCond .ne 6, 3) := by decide +kernel
theorem dX11_thingOf_11 : decode cX11_thingOf 11 = .ok (.bipush (-101), 2) := by decide +kernel
theorem dX11_thingOf_13 : decode cX11_thingOf 13 = .ok (.ireturn, 1) := by decide +kernel
theorem dX11_thingOf_14 : decode cX11_thingOf 14 = .ok (.iload_n 2, 1) := by decide +kernel
theorem dX11_thingOf_15 : decode cX11_thingOf 15 = .ok (.tableswitch 94 0 6 #[41, 41, 41, 54, 63, 72, 81], 41) := by decide +kernel
theorem dX11_thingOf_56 : decode cX11_thingOf 56 = .ok (.aload_n 0, 1) := by decide +kernel
theorem dX11_thingOf_57 : decode cX11_thingOf 57 = .ok (.getfield 26, 3) := by decide +kernel
theorem dX11_thingOf_60 : decode cX11_thingOf 60 = .ok (.iload_n 1, 1) := by decide +kernel
theorem dX11_thingOf_61 : decode cX11_thingOf 61 = .ok (.invokevirtual 139, 3) := by decide +kernel
theorem dX11_thingOf_64 : decode cX11_thingOf 64 = .ok (.iload_n 2, 1) := by decide +kernel
theorem dX11_thingOf_65 : decode cX11_thingOf 65 = .ok (.invokestatic 142, 3) := by decide +kernel
theorem dX11_thingOf_68 : decode cX11_thingOf 68 = .ok (.ireturn, 1) := by decide +kernel
theorem dX11_thingOf_69 : decode cX11_thingOf 69 = .ok (.aload_n 0, 1) := by decide +kernel
theorem dX11_thingOf_70 : decode cX11_thingOf 70 = .ok (.getfield 26, 3) := by decide +kernel
theorem dX11_thingOf_73 : decode cX11_thingOf 73 = .ok (.iload_n 1, 1) := by decide +kernel
theorem dX11_thingOf_74 : decode cX11_thingOf 74 = .ok (.invokevirtual 139, 3) := by decide +kernel
theorem dX11_thingOf_77 : decode cX11_thingOf 77 = .ok (.ireturn, 1) := by decide +kernel
theorem dX11_thingOf_78 : decode cX11_thingOf 78 = .ok (.aload_n 0, 1) := by decide +kernel
theorem dX11_thingOf_79 : decode cX11_thingOf 79 = .ok (.getfield 26, 3) := by decide +kernel
theorem dX11_thingOf_82 : decode cX11_thingOf 82 = .ok (.iload_n 1, 1) := by decide +kernel
theorem dX11_thingOf_83 : decode cX11_thingOf 83 = .ok (.invokevirtual 146, 3) := by decide +kernel
theorem dX11_thingOf_86 : decode cX11_thingOf 86 = .ok (.ireturn, 1) := by decide +kernel
theorem dX11_thingOf_87 : decode cX11_thingOf 87 = .ok (.aload_n 0, 1) := by decide +kernel
theorem dX11_thingOf_88 : decode cX11_thingOf 88 = .ok (.getfield 26, 3) := by decide +kernel
theorem dX11_thingOf_91 : decode cX11_thingOf 91 = .ok (.iload_n 1, 1) := by decide +kernel
theorem dX11_thingOf_92 : decode cX11_thingOf 92 = .ok (.invokevirtual 149, 3) := by decide +kernel
theorem dX11_thingOf_95 : decode cX11_thingOf 95 = .ok (.ireturn, 1) := by decide +kernel
theorem dX11_thingOf_96 : decode cX11_thingOf 96 = .ok (.aload_n 0, 1) := by decide +kernel
theorem dX11_thingOf_97 : decode cX11_thingOf 97 = .ok (.getfield 26, 3) := by decide +kernel
theorem dX11_thingOf_100 : decode cX11_thingOf 100 = .ok (.iload_n 1, 1) := by decide +kernel
theorem dX11_thingOf_101 : decode cX11_thingOf 101 = .ok (.aload_n 0, 1) := by decide +kernel
theorem dX11_thingOf_102 : decode cX11_thingOf 102 = .ok (.getfield 19, 3) := by decide +kernel
theorem dX11_thingOf_105 : decode cX11_thingOf 105 = .ok (.invokevirtual 152, 3) := by decide +kernel
theorem dX11_thingOf_108 : decode cX11_thingOf 108 = .ok (.ireturn, 1) := by decide +kernel
theorem dX11_thingOf_109 : decode cX11_thingOf 109 = .ok (.bipush (-102), 2) := by decide +kernel
theorem dX11_thingOf_111 : decode cX11_thingOf 111 = .ok (.ireturn, 1) := by decide +kernel
theorem dX11_lend_0 : decode cX11_lend 0 = .ok (.aload_n 0, 1) := by decide +kernel
theorem dX11_lend_1 : decode cX11_lend 1 = .ok (.getfield 19, 3) := by decide +kernel
theorem dX11_lend_4 : decode cX11_lend 4 = .ok (.iload_n 2, 1) := by decide +kernel
theorem dX11_lend_5 : decode cX11_lend 5 = .ok (.invokevirtual 101, 3) := by decide +kernel
theorem dX11_lend_8 : decode cX11_lend 8 = .ok (.astore_n 3, 1) := by decide +kernel
theorem dX11_lend_9 : decode cX11_lend 9 = .ok (.aload_n 0, 1) := by decide +kernel
theorem dX11_lend_10 : decode cX11_lend 10 = .ok (.getfield 26, 3) := by decide +kernel
theorem dX11_lend_13 : decode cX11_lend 13 = .ok (.iload_n 1, 1) := by decide +kernel
theorem dX11_lend_14 : decode cX11_lend 14 = .ok (.invokevirtual 136, 3) := by decide +kernel
theorem dX11_lend_17 : decode cX11_lend 17 = .ok (.ifCond .eq 7, 3) := by decide +kernel
theorem dX11_lend_20 : decode cX11_lend 20 = .ok (.aload_n 3, 1) := by decide +kernel
theorem dX11_lend_21 : decode cX11_lend 21 = .ok (.ifnonnull 6, 3) := by decide +kernel
theorem dX11_lend_24 : decode cX11_lend 24 = .ok (.bipush (-101), 2) := by decide +kernel
theorem dX11_lend_26 : decode cX11_lend 26 = .ok (.ireturn, 1) := by decide +kernel
theorem dX11_lend_27 : decode cX11_lend 27 = .ok (.aload_n 0, 1) := by decide +kernel
theorem dX11_lend_28 : decode cX11_lend 28 = .ok (.getfield 26, 3) := by decide +kernel
theorem dX11_lend_31 : decode cX11_lend 31 = .ok (.iload_n 1, 1) := by decide +kernel
theorem dX11_lend_32 : decode cX11_lend 32 = .ok (.invokevirtual 156, 3) := by decide +kernel
theorem dX11_lend_35 : decode cX11_lend 35 = .ok (.ifCond .ne 15, 3) := by decide +kernel
theorem dX11_lend_38 : decode cX11_lend 38 = .ok (.aload_n 0, 1) := by decide +kernel
theorem dX11_lend_39 : decode cX11_lend 39 = .ok (.getfield 26, 3) := by decide +kernel
theorem dX11_lend_42 : decode cX11_lend 42 = .ok (.iload_n 2, 1) := by decide +kernel
theorem dX11_lend_43 : decode cX11_lend 43 = .ok (.invokevirtual 119, 3) := by decide +kernel
theorem dX11_lend_46 : decode cX11_lend 46 = .ok (.iconst (-1), 1) := by decide +kernel
theorem dX11_lend_47 : decode cX11_lend 47 = .ok (.if_icmp .eq 6, 3) := by decide +kernel
theorem dX11_lend_50 : decode cX11_lend 50 = .ok (.bipush (-103), 2) := by decide +kernel
theorem dX11_lend_52 : decode cX11_lend 52 = .ok (.ireturn, 1) := by decide +kernel
theorem dX11_lend_53 : decode cX11_lend 53 = .ok (.aload_n 0, 1) := by decide +kernel
theorem dX11_lend_54 : decode cX11_lend 54 = .ok (.getfield 26, 3) := by decide +kernel
theorem dX11_lend_57 : decode cX11_lend 57 = .ok (.iload_n 1, 1) := by decide +kernel
theorem dX11_lend_58 : decode cX11_lend 58 = .ok (.iload_n 2, 1) := by decide +kernel
theorem dX11_lend_59 : decode cX11_lend 59 = .ok (.aload_n 3, 1) := by decide +kernel
theorem dX11_lend_60 : decode cX11_lend 60 = .ok (.getfield 116, 3) := by decide +kernel
theorem dX11_lend_63 : decode cX11_lend 63 = .ok (.invokevirtual 159, 3) := by decide +kernel
theorem dX11_lend_66 : decode cX11_lend 66 = .ok (.aload_n 3, 1) := by decide +kernel
theorem dX11_lend_67 : decode cX11_lend 67 = .ok (.getfield 116, 3) := by decide +kernel
theorem dX11_lend_70 : decode cX11_lend 70 = .ok (.ireturn, 1) := by decide +kernel
theorem dX11_day_0 : decode cX11_day 0 = .ok (.aload_n 0, 1) := by decide +kernel
theorem dX11_day_1 : decode cX11_day 1 = .ok (.getfield 19, 3) := by decide +kernel
theorem dX11_day_4 : decode cX11_day 4 = .ok (.getfield 73, 3) := by decide +kernel
theorem dX11_day_7 : decode cX11_day 7 = .ok (.ifCond .ne 6, 3) := by decide +kernel
theorem dX11_day_10 : decode cX11_day 10 = .ok (.bipush (-103), 2) := by decide +kernel
theorem dX11_day_12 : decode cX11_day 12 = .ok (.ireturn, 1) := by decide +kernel
theorem dX11_day_13 : decode cX11_day 13 = .ok (.aload_n 0, 1) := by decide +kernel
theorem dX11_day_14 : decode cX11_day 14 = .ok (.getfield 26, 3) := by decide +kernel
theorem dX11_day_17 : decode cX11_day 17 = .ok (.aload_n 0, 1) := by decide +kernel
theorem dX11_day_18 : decode cX11_day 18 = .ok (.getfield 19, 3) := by decide +kernel
theorem dX11_day_21 : decode cX11_day 21 = .ok (.invokevirtual 163, 3) := by decide +kernel
theorem dX11_day_24 : decode cX11_day 24 = .ok (.ireturn, 1) := by decide +kernel
theorem dX11_by_0 : decode cX11_by 0 = .ok (.aload_n 0, 1) := by decide +kernel
theorem dX11_by_1 : decode cX11_by 1 = .ok (.getfield 19, 3) := by decide +kernel
theorem dX11_by_4 : decode cX11_by 4 = .ok (.iload_n 1, 1) := by decide +kernel
theorem dX11_by_5 : decode cX11_by 5 = .ok (.invokevirtual 101, 3) := by decide +kernel
theorem dX11_by_8 : decode cX11_by 8 = .ok (.ifnonnull 6, 3) := by decide +kernel
theorem dX11_by_11 : decode cX11_by 11 = .ok (.bipush (-101), 2) := by decide +kernel
theorem dX11_by_13 : decode cX11_by 13 = .ok (.ireturn, 1) := by decide +kernel
theorem dX11_by_14 : decode cX11_by 14 = .ok (.iload_n 2, 1) := by decide +kernel
theorem dX11_by_15 : decode cX11_by 15 = .ok (.invokestatic 129, 3) := by decide +kernel
theorem dX11_by_18 : decode cX11_by 18 = .ok (.ifCond .ne 6, 3) := by decide +kernel
theorem dX11_by_21 : decode cX11_by 21 = .ok (.bipush (-102), 2) := by decide +kernel
theorem dX11_by_23 : decode cX11_by 23 = .ok (.ireturn, 1) := by decide +kernel
theorem dX11_by_24 : decode cX11_by 24 = .ok (.aload_n 0, 1) := by decide +kernel
theorem dX11_by_25 : decode cX11_by 25 = .ok (.getfield 19, 3) := by decide +kernel
theorem dX11_by_28 : decode cX11_by 28 = .ok (.iload_n 1, 1) := by decide +kernel
theorem dX11_by_29 : decode cX11_by 29 = .ok (.iload_n 2, 1) := by decide +kernel
theorem dX11_by_30 : decode cX11_by 30 = .ok (.invokevirtual 167, 3) := by decide +kernel
theorem dX11_by_33 : decode cX11_by 33 = .ok (.ireturn, 1) := by decide +kernel
theorem dX11_wished_0 : decode cX11_wished 0 = .ok (.aload_n 0, 1) := by decide +kernel
theorem dX11_wished_1 : decode cX11_wished 1 = .ok (.getfield 26, 3) := by decide +kernel
theorem dX11_wished_4 : decode cX11_wished 4 = .ok (.iload_n 1, 1) := by decide +kernel
theorem dX11_wished_5 : decode cX11_wished 5 = .ok (.invokevirtual 136, 3) := by decide +kernel
theorem dX11_wished_8 : decode cX11_wished 8 = .ok (.ifCond .ne 6, 3) := by decide +kernel
theorem dX11_wished_11 : decode cX11_wished 11 = .ok (.bipush (-101), 2) := by decide +kernel
theorem dX11_wished_13 : decode cX11_wished 13 = .ok (.ireturn, 1) := by decide +kernel
theorem dX11_wished_14 : decode cX11_wished 14 = .ok (.iload_n 2, 1) := by decide +kernel
theorem dX11_wished_15 : decode cX11_wished 15 = .ok (.invokestatic 129, 3) := by decide +kernel
theorem dX11_wished_18 : decode cX11_wished 18 = .ok (.ifCond .eq 12, 3) := by decide +kernel
theorem dX11_wished_21 : decode cX11_wished 21 = .ok (.iload_n 3, 1) := by decide +kernel
theorem dX11_wished_22 : decode cX11_wished 22 = .ok (.ifCond .lt 8, 3) := by decide +kernel
theorem dX11_wished_25 : decode cX11_wished 25 = .ok (.iload_n 3, 1) := by decide +kernel
theorem dX11_wished_26 : decode cX11_wished 26 = .ok (.iconst 3, 1) := by decide +kernel
theorem dX11_wished_27 : decode cX11_wished 27 = .ok (.if_icmp .le 6, 3) := by decide +kernel
theorem dX11_wished_30 : decode cX11_wished 30 = .ok (.bipush (-102), 2) := by decide +kernel
theorem dX11_wished_32 : decode cX11_wished 32 = .ok (.ireturn, 1) := by decide +kernel
theorem dX11_wished_33 : decode cX11_wished 33 = .ok (.iload_n 3, 1) := by decide +kernel
theorem dX11_wished_34 : decode cX11_wished 34 = .ok (.iconst 2, 1) := by decide +kernel
theorem dX11_wished_35 : decode cX11_wished 35 = .ok (.if_icmp .ge 10, 3) := by decide +kernel
theorem dX11_wished_38 : decode cX11_wished 38 = .ok (.aload_n 0, 1) := by decide +kernel
theorem dX11_wished_39 : decode cX11_wished 39 = .ok (.getfield 38, 3) := by decide +kernel
theorem dX11_wished_42 : decode cX11_wished 42 = .ok (.goto 7, 3) := by decide +kernel
theorem dX11_wished_45 : decode cX11_wished 45 = .ok (.aload_n 0, 1) := by decide +kernel
theorem dX11_wished_46 : decode cX11_wished 46 = .ok (.getfield 42, 3) := by decide +kernel
theorem dX11_wished_49 : decode cX11_wished 49 = .ok (.astore 4, 2) := by decide +kernel
theorem dX11_wished_51 : decode cX11_wished 51 = .ok (.aload 4, 2) := by decide +kernel
theorem dX11_wished_53 : decode cX11_wished 53 = .ok (.aload_n 0, 1) := by decide +kernel
theorem dX11_wished_54 : decode cX11_wished 54 = .ok (.getfield 26, 3) := by decide +kernel
theorem dX11_wished_57 : decode cX11_wished 57 = .ok (.iload_n 1, 1) := by decide +kernel
theorem dX11_wished_58 : decode cX11_wished 58 = .ok (.aload_n 0, 1) := by decide +kernel
theorem dX11_wished_59 : decode cX11_wished 59 = .ok (.getfield 19, 3) := by decide +kernel
theorem dX11_wished_62 : decode cX11_wished 62 = .ok (.invokevirtual 152, 3) := by decide +kernel
theorem dX11_wished_65 : decode cX11_wished 65 = .ok (.invokevirtual 170, 3) := by decide +kernel
theorem dX11_wished_68 : decode cX11_wished 68 = .ok (.iload_n 3, 1) := by decide +kernel
theorem dX11_wished_69 : decode cX11_wished 69 = .ok (.iconst 2, 1) := by decide +kernel
theorem dX11_wished_70 : decode cX11_wished 70 = .ok (.irem, 1) := by decide +kernel
theorem dX11_wished_71 : decode cX11_wished 71 = .ok (.ifCond .ne 12, 3) := by decide +kernel
theorem dX11_wished_74 : decode cX11_wished 74 = .ok (.aload 4, 2) := by decide +kernel
theorem dX11_wished_76 : decode cX11_wished 76 = .ok (.iload_n 2, 1) := by decide +kernel
theorem dX11_wished_77 : decode cX11_wished 77 = .ok (.invokevirtual 173, 3) := by decide +kernel
theorem dX11_wished_80 : decode cX11_wished 80 = .ok (.goto 9, 3) := by decide +kernel
theorem dX11_wished_83 : decode cX11_wished 83 = .ok (.aload 4, 2) := by decide +kernel
theorem dX11_wished_85 : decode cX11_wished 85 = .ok (.iload_n 2, 1) := by decide +kernel
theorem dX11_wished_86 : decode cX11_wished 86 = .ok (.invokevirtual 176, 3) := by decide +kernel
theorem dX11_wished_89 : decode cX11_wished 89 = .ok (.ireturn, 1) := by decide +kernel
theorem dX11_reach_0 : decode cX11_reach 0 = .ok (.aload_n 0, 1) := by decide +kernel
theorem dX11_reach_1 : decode cX11_reach 1 = .ok (.getfield 26, 3) := by decide +kernel
theorem dX11_reach_4 : decode cX11_reach 4 = .ok (.iload_n 1, 1) := by decide +kernel
theorem dX11_reach_5 : decode cX11_reach 5 = .ok (.invokevirtual 136, 3) := by decide +kernel
theorem dX11_reach_8 : decode cX11_reach 8 = .ok (.ifCond .ne 6, 3) := by decide +kernel
theorem dX11_reach_11 : decode cX11_reach 11 = .ok (.bipush (-101), 2) := by decide +kernel
theorem dX11_reach_13 : decode cX11_reach 13 = .ok (.ireturn, 1) := by decide +kernel
theorem dX11_reach_14 : decode cX11_reach 14 = .ok (.aload_n 0, 1) := by decide +kernel
theorem dX11_reach_15 : decode cX11_reach 15 = .ok (.getfield 38, 3) := by decide +kernel
theorem dX11_reach_18 : decode cX11_reach 18 = .ok (.aload_n 0, 1) := by decide +kernel
theorem dX11_reach_19 : decode cX11_reach 19 = .ok (.getfield 26, 3) := by decide +kernel
theorem dX11_reach_22 : decode cX11_reach 22 = .ok (.iload_n 1, 1) := by decide +kernel
theorem dX11_reach_23 : decode cX11_reach 23 = .ok (.aload_n 0, 1) := by decide +kernel
theorem dX11_reach_24 : decode cX11_reach 24 = .ok (.getfield 19, 3) := by decide +kernel
theorem dX11_reach_27 : decode cX11_reach 27 = .ok (.invokevirtual 152, 3) := by decide +kernel
theorem dX11_reach_30 : decode cX11_reach 30 = .ok (.invokevirtual 170, 3) := by decide +kernel
theorem dX11_reach_33 : decode cX11_reach 33 = .ok (.aload_n 0, 1) := by decide +kernel
theorem dX11_reach_34 : decode cX11_reach 34 = .ok (.getfield 38, 3) := by decide +kernel
theorem dX11_reach_37 : decode cX11_reach 37 = .ok (.getfield 179, 3) := by decide +kernel
theorem dX11_reach_40 : decode cX11_reach 40 = .ok (.ireturn, 1) := by decide +kernel
theorem dX11_spoilers_0 : decode cX11_spoilers 0 = .ok (.aload_n 0, 1) := by decide +kernel
theorem dX11_spoilers_1 : decode cX11_spoilers 1 = .ok (.getfield 26, 3) := by decide +kernel
theorem dX11_spoilers_4 : decode cX11_spoilers 4 = .ok (.iload_n 1, 1) := by decide +kernel
theorem dX11_spoilers_5 : decode cX11_spoilers 5 = .ok (.invokevirtual 136, 3) := by decide +kernel
theorem dX11_spoilers_8 : decode cX11_spoilers 8 = .ok (.ifCond .ne 6, 3) := by decide +kernel
theorem dX11_spoilers_11 : decode cX11_spoilers 11 = .ok (.bipush (-101), 2) := by decide +kernel
theorem dX11_spoilers_13 : decode cX11_spoilers 13 = .ok (.ireturn, 1) := by decide +kernel
theorem dX11_spoilers_14 : decode cX11_spoilers 14 = .ok (.iload_n 2, 1) := by decide +kernel
theorem dX11_spoilers_15 : decode cX11_spoilers 15 = .ok (.ifCond .lt 19, 3) := by decide +kernel
theorem dX11_spoilers_18 : decode cX11_spoilers 18 = .ok (.iload_n 2, 1) := by decide +kernel
theorem dX11_spoilers_19 : decode cX11_spoilers 19 = .ok (.iconst 3, 1) := by decide +kernel
theorem dX11_spoilers_20 : decode cX11_spoilers 20 = .ok (.if_icmp .ge 14, 3) := by decide +kernel
theorem dX11_spoilers_23 : decode cX11_spoilers 23 = .ok (.iload_n 3, 1) := by decide +kernel
theorem dX11_spoilers_24 : decode cX11_spoilers 24 = .ok (.iconst 1, 1) := by decide +kernel
theorem dX11_spoilers_25 : decode cX11_spoilers 25 = .ok (.if_icmp .lt 9, 3) := by decide +kernel
theorem dX11_spoilers_28 : decode cX11_spoilers 28 = .ok (.iload_n 3, 1) := by decide +kernel
theorem dX11_spoilers_29 : decode cX11_spoilers 29 = .ok (.bipush 7, 2) := by decide +kernel
theorem dX11_spoilers_31 : decode cX11_spoilers 31 = .ok (.if_icmp .le 6, 3) := by decide +kernel
theorem dX11_spoilers_34 : decode cX11_spoilers 34 = .ok (.bipush (-102), 2) := by decide +kernel
theorem dX11_spoilers_36 : decode cX11_spoilers 36 = .ok (.ireturn, 1) := by decide +kernel
theorem dX11_spoilers_37 : decode cX11_spoilers 37 = .ok (.aload_n 0, 1) := by decide +kernel
theorem dX11_spoilers_38 : decode cX11_spoilers 38 = .ok (.getfield 50, 3) := by decide +kernel
theorem dX11_spoilers_41 : decode cX11_spoilers 41 = .ok (.aload_n 0, 1) := by decide +kernel
theorem dX11_spoilers_42 : decode cX11_spoilers 42 = .ok (.getfield 26, 3) := by decide +kernel
theorem dX11_spoilers_45 : decode cX11_spoilers 45 = .ok (.iload_n 1, 1) := by decide +kernel
theorem dX11_spoilers_46 : decode cX11_spoilers 46 = .ok (.aload_n 0, 1) := by decide +kernel
theorem dX11_spoilers_47 : decode cX11_spoilers 47 = .ok (.getfield 19, 3) := by decide +kernel
theorem dX11_spoilers_50 : decode cX11_spoilers 50 = .ok (.invokevirtual 152, 3) := by decide +kernel
theorem dX11_spoilers_53 : decode cX11_spoilers 53 = .ok (.iload_n 2, 1) := by decide +kernel
theorem dX11_spoilers_54 : decode cX11_spoilers 54 = .ok (.iload_n 3, 1) := by decide +kernel
theorem dX11_spoilers_55 : decode cX11_spoilers 55 = .ok (.invokevirtual 182, 3) := by decide +kernel
theorem dX11_spoilers_58 : decode cX11_spoilers 58 = .ok (.ireturn, 1) := by decide +kernel
theorem dX11_round_0 : decode cX11_round 0 = .ok (.iload_n 1, 1) := by decide +kernel
theorem dX11_round_1 : decode cX11_round 1 = .ok (.invokestatic 129, 3) := by decide +kernel
theorem dX11_round_4 : decode cX11_round 4 = .ok (.ifCond .eq 12, 3) := by decide +kernel
theorem dX11_round_7 : decode cX11_round 7 = .ok (.iload_n 2, 1) := by decide +kernel
theorem dX11_round_8 : decode cX11_round 8 = .ok (.ifCond .lt 8, 3) := by decide +kernel
theorem dX11_round_11 : decode cX11_round 11 = .ok (.iload_n 2, 1) := by decide +kernel
theorem dX11_round_12 : decode cX11_round 12 = .ok (.iconst 1, 1) := by decide +kernel
theorem dX11_round_13 : decode cX11_round 13 = .ok (.if_icmp .le 6, 3) := by decide +kernel
theorem dX11_round_16 : decode cX11_round 16 = .ok (.bipush (-102), 2) := by decide +kernel
theorem dX11_round_18 : decode cX11_round 18 = .ok (.ireturn, 1) := by decide +kernel
theorem dX11_round_19 : decode cX11_round 19 = .ok (.aload_n 0, 1) := by decide +kernel
theorem dX11_round_20 : decode cX11_round 20 = .ok (.getfield 10, 3) := by decide +kernel
theorem dX11_round_23 : decode cX11_round 23 = .ok (.aload_n 0, 1) := by decide +kernel
theorem dX11_round_24 : decode cX11_round 24 = .ok (.getfield 19, 3) := by decide +kernel
theorem dX11_round_27 : decode cX11_round 27 = .ok (.getfield 73, 3) := by decide +kernel
theorem dX11_round_30 : decode cX11_round 30 = .ok (.invokevirtual 186, 3) := by decide +kernel
theorem dX11_round_33 : decode cX11_round 33 = .ok (.ifCond .ne 6, 3) := by decide +kernel
theorem dX11_round_36 : decode cX11_round 36 = .ok (.bipush (-103), 2) := by decide +kernel
theorem dX11_round_38 : decode cX11_round 38 = .ok (.ireturn, 1) := by decide +kernel
theorem dX11_round_39 : decode cX11_round 39 = .ok (.iload_n 2, 1) := by decide +kernel
theorem dX11_round_40 : decode cX11_round 40 = .ok (.ifCond .ne 17, 3) := by decide +kernel
theorem dX11_round_43 : decode cX11_round 43 = .ok (.aload_n 0, 1) := by decide +kernel
theorem dX11_round_44 : decode cX11_round 44 = .ok (.getfield 19, 3) := by decide +kernel
theorem dX11_round_47 : decode cX11_round 47 = .ok (.aload_n 0, 1) := by decide +kernel
theorem dX11_round_48 : decode cX11_round 48 = .ok (.getfield 10, 3) := by decide +kernel
theorem dX11_round_51 : decode cX11_round 51 = .ok (.invokevirtual 189, 3) := by decide +kernel
theorem dX11_round_54 : decode cX11_round 54 = .ok (.goto 15, 3) := by decide +kernel
theorem dX11_round_57 : decode cX11_round 57 = .ok (.aload_n 0, 1) := by decide +kernel
theorem dX11_round_58 : decode cX11_round 58 = .ok (.getfield 19, 3) := by decide +kernel
theorem dX11_round_61 : decode cX11_round 61 = .ok (.aload_n 0, 1) := by decide +kernel
theorem dX11_round_62 : decode cX11_round 62 = .ok (.getfield 10, 3) := by decide +kernel
theorem dX11_round_65 : decode cX11_round 65 = .ok (.iload_n 1, 1) := by decide +kernel
theorem dX11_round_66 : decode cX11_round 66 = .ok (.invokevirtual 193, 3) := by decide +kernel
theorem dX11_round_69 : decode cX11_round 69 = .ok (.ireturn, 1) := by decide +kernel
theorem dX11_hands_0 : decode cX11_hands 0 = .ok (.iload_n 1, 1) := by decide +kernel
theorem dX11_hands_1 : decode cX11_hands 1 = .ok (.invokestatic 129, 3) := by decide +kernel
theorem dX11_hands_4 : decode cX11_hands 4 = .ok (.ifCond .eq 31, 3) := by decide +kernel
theorem dX11_hands_7 : decode cX11_hands 7 = .ok (.iload_n 2, 1) := by decide +kernel
theorem dX11_hands_8 : decode cX11_hands 8 = .ok (.invokestatic 129, 3) := by decide +kernel
theorem dX11_hands_11 : decode cX11_hands 11 = .ok (.ifCond .eq 24, 3) := by decide +kernel
theorem dX11_hands_14 : decode cX11_hands 14 = .ok (.iload_n 3, 1) := by decide +kernel
theorem dX11_hands_15 : decode cX11_hands 15 = .ok (.ifCond .lt 20, 3) := by decide +kernel
theorem dX11_hands_18 : decode cX11_hands 18 = .ok (.iload_n 3, 1) := by decide +kernel
theorem dX11_hands_19 : decode cX11_hands 19 = .ok (.bipush 6, 2) := by decide +kernel
theorem dX11_hands_21 : decode cX11_hands 21 = .ok (.if_icmp .gt 14, 3) := by decide +kernel
theorem dX11_hands_24 : decode cX11_hands 24 = .ok (.iload 4, 2) := by decide +kernel
theorem dX11_hands_26 : decode cX11_hands 26 = .ok (.ifCond .lt 9, 3) := by decide +kernel
theorem dX11_hands_29 : decode cX11_hands 29 = .ok (.iload 4, 2) := by decide +kernel
theorem dX11_hands_31 : decode cX11_hands 31 = .ok (.iconst 1, 1) := by decide +kernel
theorem dX11_hands_32 : decode cX11_hands 32 = .ok (.if_icmp .le 6, 3) := by decide +kernel
theorem dX11_hands_35 : decode cX11_hands 35 = .ok (.bipush (-102), 2) := by decide +kernel
theorem dX11_hands_37 : decode cX11_hands 37 = .ok (.ireturn, 1) := by decide +kernel
theorem dX11_hands_38 : decode cX11_hands 38 = .ok (.aload_n 0, 1) := by decide +kernel
theorem dX11_hands_39 : decode cX11_hands 39 = .ok (.getfield 19, 3) := by decide +kernel
theorem dX11_hands_42 : decode cX11_hands 42 = .ok (.getfield 73, 3) := by decide +kernel
theorem dX11_hands_45 : decode cX11_hands 45 = .ok (.ifCond .eq 12, 3) := by decide +kernel
theorem dX11_hands_48 : decode cX11_hands 48 = .ok (.aload_n 0, 1) := by decide +kernel
theorem dX11_hands_49 : decode cX11_hands 49 = .ok (.getfield 197, 3) := by decide +kernel
theorem dX11_hands_52 : decode cX11_hands 52 = .ok (.bipush 60, 2) := by decide +kernel
theorem dX11_hands_54 : decode cX11_hands 54 = .ok (.if_icmp .lt 6, 3) := by decide +kernel
theorem dX11_hands_57 : decode cX11_hands 57 = .ok (.bipush (-103), 2) := by decide +kernel
theorem dX11_hands_59 : decode cX11_hands 59 = .ok (.ireturn, 1) := by decide +kernel
theorem dX11_hands_60 : decode cX11_hands 60 = .ok (.aload_n 0, 1) := by decide +kernel
theorem dX11_hands_61 : decode cX11_hands 61 = .ok (.dup, 1) := by decide +kernel
theorem dX11_hands_62 : decode cX11_hands 62 = .ok (.getfield 197, 3) := by decide +kernel
theorem dX11_hands_65 : decode cX11_hands 65 = .ok (.iconst 1, 1) := by decide +kernel
theorem dX11_hands_66 : decode cX11_hands 66 = .ok (.iadd, 1) := by decide +kernel
theorem dX11_hands_67 : decode cX11_hands 67 = .ok (.putfield 197, 3) := by decide +kernel
theorem dX11_hands_70 : decode cX11_hands 70 = .ok (.aload_n 0, 1) := by decide +kernel
theorem dX11_hands_71 : decode cX11_hands 71 = .ok (.getfield 57, 3) := by decide +kernel
theorem dX11_hands_74 : decode cX11_hands 74 = .ok (.iload_n 1, 1) := by decide +kernel
theorem dX11_hands_75 : decode cX11_hands 75 = .ok (.iload_n 3, 1) := by decide +kernel
theorem dX11_hands_76 : decode cX11_hands 76 = .ok (.invokevirtual 200, 3) := by decide +kernel
theorem dX11_hands_79 : decode cX11_hands 79 = .ok (.iload 4, 2) := by decide +kernel
theorem dX11_hands_81 : decode cX11_hands 81 = .ok (.ifCond .ne 14, 3) := by decide +kernel
theorem dX11_hands_84 : decode cX11_hands 84 = .ok (.aload_n 0, 1) := by decide +kernel
theorem dX11_hands_85 : decode cX11_hands 85 = .ok (.getfield 57, 3) := by decide +kernel
theorem dX11_hands_88 : decode cX11_hands 88 = .ok (.iload_n 2, 1) := by decide +kernel
theorem dX11_hands_89 : decode cX11_hands 89 = .ok (.invokevirtual 204, 3) := by decide +kernel
theorem dX11_hands_92 : decode cX11_hands 92 = .ok (.goto 11, 3) := by decide +kernel
theorem dX11_hands_95 : decode cX11_hands 95 = .ok (.aload_n 0, 1) := by decide +kernel
theorem dX11_hands_96 : decode cX11_hands 96 = .ok (.getfield 57, 3) := by decide +kernel
theorem dX11_hands_99 : decode cX11_hands 99 = .ok (.iload_n 2, 1) := by decide +kernel
theorem dX11_hands_100 : decode cX11_hands 100 = .ok (.invokevirtual 207, 3) := by decide +kernel
theorem dX11_hands_103 : decode cX11_hands 103 = .ok (.ireturn, 1) := by decide +kernel
theorem dX11_years_0 : decode cX11_years 0 = .ok (.iload_n 1, 1) := by decide +kernel
theorem dX11_years_1 : decode cX11_years 1 = .ok (.iconst 1, 1) := by decide +kernel
theorem dX11_years_2 : decode cX11_years 2 = .ok (.if_icmp .lt 22, 3) := by decide +kernel
theorem dX11_years_5 : decode cX11_years 5 = .ok (.iload_n 1, 1) := by decide +kernel
theorem dX11_years_6 : decode cX11_years 6 = .ok (.bipush 90, 2) := by decide +kernel
theorem dX11_years_8 : decode cX11_years 8 = .ok (.if_icmp .gt 16, 3) := by decide +kernel
theorem dX11_years_11 : decode cX11_years 11 = .ok (.iload_n 2, 1) := by decide +kernel
theorem dX11_years_12 : decode cX11_years 12 = .ok (.ifCond .lt 12, 3) := by decide +kernel
theorem dX11_years_15 : decode cX11_years 15 = .ok (.iload_n 3, 1) := by decide +kernel
theorem dX11_years_16 : decode cX11_years 16 = .ok (.ifCond .lt 8, 3) := by decide +kernel
theorem dX11_years_19 : decode cX11_years 19 = .ok (.iload_n 3, 1) := by decide +kernel
theorem dX11_years_20 : decode cX11_years 20 = .ok (.iconst 2, 1) := by decide +kernel
theorem dX11_years_21 : decode cX11_years 21 = .ok (.if_icmp .le 6, 3) := by decide +kernel
theorem dX11_years_24 : decode cX11_years 24 = .ok (.bipush (-102), 2) := by decide +kernel
theorem dX11_years_26 : decode cX11_years 26 = .ok (.ireturn, 1) := by decide +kernel
theorem dX11_years_27 : decode cX11_years 27 = .ok (.aload_n 0, 1) := by decide +kernel
theorem dX11_years_28 : decode cX11_years 28 = .ok (.getfield 26, 3) := by decide +kernel
theorem dX11_years_31 : decode cX11_years 31 = .ok (.getfield 133, 3) := by decide +kernel
theorem dX11_years_34 : decode cX11_years 34 = .ok (.ifCond .ne 6, 3) := by decide +kernel
theorem dX11_years_37 : decode cX11_years 37 = .ok (.bipush (-103), 2) := by decide +kernel
theorem dX11_years_39 : decode cX11_years 39 = .ok (.ireturn, 1) := by decide +kernel
theorem dX11_years_40 : decode cX11_years 40 = .ok (.aload_n 0, 1) := by decide +kernel
theorem dX11_years_41 : decode cX11_years 41 = .ok (.getfield 26, 3) := by decide +kernel
theorem dX11_years_44 : decode cX11_years 44 = .ok (.aload_n 0, 1) := by decide +kernel
theorem dX11_years_45 : decode cX11_years 45 = .ok (.getfield 19, 3) := by decide +kernel
theorem dX11_years_48 : decode cX11_years 48 = .ok (.iload_n 1, 1) := by decide +kernel
theorem dX11_years_49 : decode cX11_years 49 = .ok (.iload_n 2, 1) := by decide +kernel
theorem dX11_years_50 : decode cX11_years 50 = .ok (.invokevirtual 210, 3) := by decide +kernel
theorem dX11_years_53 : decode cX11_years 53 = .ok (.iload_n 3, 1) := by decide +kernel
theorem dX11_years_54 : decode cX11_years 54 = .ok (.lookupswitch 42 #[(0, 26), (1, 34)], 26) := by decide +kernel
theorem dX11_years_80 : decode cX11_years 80 = .ok (.aload_n 0, 1) := by decide +kernel
theorem dX11_years_81 : decode cX11_years 81 = .ok (.getfield 26, 3) := by decide +kernel
theorem dX11_years_84 : decode cX11_years 84 = .ok (.invokevirtual 214, 3) := by decide +kernel
theorem dX11_years_87 : decode cX11_years 87 = .ok (.ireturn, 1) := by decide +kernel
theorem dX11_years_88 : decode cX11_years 88 = .ok (.aload_n 0, 1) := by decide +kernel
theorem dX11_years_89 : decode cX11_years 89 = .ok (.getfield 26, 3) := by decide +kernel
theorem dX11_years_92 : decode cX11_years 92 = .ok (.invokevirtual 217, 3) := by decide +kernel
theorem dX11_years_95 : decode cX11_years 95 = .ok (.ireturn, 1) := by decide +kernel
theorem dX11_years_96 : decode cX11_years 96 = .ok (.aload_n 0, 1) := by decide +kernel
theorem dX11_years_97 : decode cX11_years 97 = .ok (.getfield 26, 3) := by decide +kernel
theorem dX11_years_100 : decode cX11_years 100 = .ok (.getfield 220, 3) := by decide +kernel
theorem dX11_years_103 : decode cX11_years 103 = .ok (.ireturn, 1) := by decide +kernel
theorem dX11_image_0 : decode cX11_image 0 = .ok (.aload_n 0, 1) := by decide +kernel
theorem dX11_image_1 : decode cX11_image 1 = .ok (.getfield 19, 3) := by decide +kernel
theorem dX11_image_4 : decode cX11_image 4 = .ok (.getfield 73, 3) := by decide +kernel
theorem dX11_image_7 : decode cX11_image 7 = .ok (.ifCond .ne 6, 3) := by decide +kernel
theorem dX11_image_10 : decode cX11_image 10 = .ok (.bipush (-103), 2) := by decide +kernel
theorem dX11_image_12 : decode cX11_image 12 = .ok (.ireturn, 1) := by decide +kernel
theorem dX11_image_13 : decode cX11_image 13 = .ok (.aload_n 0, 1) := by decide +kernel
theorem dX11_image_14 : decode cX11_image 14 = .ok (.getfield 30, 3) := by decide +kernel
theorem dX11_image_17 : decode cX11_image 17 = .ok (.aload_n 0, 1) := by decide +kernel
theorem dX11_image_18 : decode cX11_image 18 = .ok (.getfield 26, 3) := by decide +kernel
theorem dX11_image_21 : decode cX11_image 21 = .ok (.invokevirtual 223, 3) := by decide +kernel
theorem dX11_image_24 : decode cX11_image 24 = .ok (.aload_n 0, 1) := by decide +kernel
theorem dX11_image_25 : decode cX11_image 25 = .ok (.iconst 1, 1) := by decide +kernel
theorem dX11_image_26 : decode cX11_image 26 = .ok (.putfield 94, 3) := by decide +kernel
theorem dX11_image_29 : decode cX11_image 29 = .ok (.aload_n 0, 1) := by decide +kernel
theorem dX11_image_30 : decode cX11_image 30 = .ok (.getfield 26, 3) := by decide +kernel
theorem dX11_image_33 : decode cX11_image 33 = .ok (.getfield 227, 3) := by decide +kernel
theorem dX11_image_36 : decode cX11_image 36 = .ok (.ireturn, 1) := by decide +kernel
theorem dX11_restore_0 : decode cX11_restore 0 = .ok (.aload_n 0, 1) := by decide +kernel
theorem dX11_restore_1 : decode cX11_restore 1 = .ok (.getfield 94, 3) := by decide +kernel
theorem dX11_restore_4 : decode cX11_restore 4 = .ok (.ifCond .ne 6, 3) := by decide +kernel
theorem dX11_restore_7 : decode cX11_restore 7 = .ok (.bipush (-103), 2) := by decide +kernel
theorem dX11_restore_9 : decode cX11_restore 9 = .ok (.ireturn, 1) := by decide +kernel
theorem dX11_restore_10 : decode cX11_restore 10 = .ok (.aload_n 0, 1) := by decide +kernel
theorem dX11_restore_11 : decode cX11_restore 11 = .ok (.getfield 26, 3) := by decide +kernel
theorem dX11_restore_14 : decode cX11_restore 14 = .ok (.aload_n 0, 1) := by decide +kernel
theorem dX11_restore_15 : decode cX11_restore 15 = .ok (.getfield 30, 3) := by decide +kernel
theorem dX11_restore_18 : decode cX11_restore 18 = .ok (.invokevirtual 223, 3) := by decide +kernel
theorem dX11_restore_21 : decode cX11_restore 21 = .ok (.aload_n 0, 1) := by decide +kernel
theorem dX11_restore_22 : decode cX11_restore 22 = .ok (.getfield 26, 3) := by decide +kernel
theorem dX11_restore_25 : decode cX11_restore 25 = .ok (.getfield 227, 3) := by decide +kernel
theorem dX11_restore_28 : decode cX11_restore 28 = .ok (.ireturn, 1) := by decide +kernel
theorem dX11_count_0 : decode cX11_count 0 = .ok (.iload_n 1, 1) := by decide +kernel
theorem dX11_count_1 : decode cX11_count 1 = .ok (.tableswitch 105 0 7 #[47, 55, 63, 71, 79, 87, 95, 100], 47) := by decide +kernel
theorem dX11_count_48 : decode cX11_count 48 = .ok (.aload_n 0, 1) := by decide +kernel
theorem dX11_count_49 : decode cX11_count 49 = .ok (.getfield 19, 3) := by decide +kernel
theorem dX11_count_52 : decode cX11_count 52 = .ok (.getfield 73, 3) := by decide +kernel
theorem dX11_count_55 : decode cX11_count 55 = .ok (.ireturn, 1) := by decide +kernel
theorem dX11_count_56 : decode cX11_count 56 = .ok (.aload_n 0, 1) := by decide +kernel
theorem dX11_count_57 : decode cX11_count 57 = .ok (.getfield 26, 3) := by decide +kernel
theorem dX11_count_60 : decode cX11_count 60 = .ok (.getfield 133, 3) := by decide +kernel
theorem dX11_count_63 : decode cX11_count 63 = .ok (.ireturn, 1) := by decide +kernel
theorem dX11_count_64 : decode cX11_count 64 = .ok (.aload_n 0, 1) := by decide +kernel
theorem dX11_count_65 : decode cX11_count 65 = .ok (.getfield 26, 3) := by decide +kernel
theorem dX11_count_68 : decode cX11_count 68 = .ok (.invokevirtual 228, 3) := by decide +kernel
theorem dX11_count_71 : decode cX11_count 71 = .ok (.ireturn, 1) := by decide +kernel
theorem dX11_count_72 : decode cX11_count 72 = .ok (.aload_n 0, 1) := by decide +kernel
theorem dX11_count_73 : decode cX11_count 73 = .ok (.getfield 26, 3) := by decide +kernel
theorem dX11_count_76 : decode cX11_count 76 = .ok (.getfield 227, 3) := by decide +kernel
theorem dX11_count_79 : decode cX11_count 79 = .ok (.ireturn, 1) := by decide +kernel
theorem dX11_count_80 : decode cX11_count 80 = .ok (.aload_n 0, 1) := by decide +kernel
theorem dX11_count_81 : decode cX11_count 81 = .ok (.getfield 26, 3) := by decide +kernel
theorem dX11_count_84 : decode cX11_count 84 = .ok (.invokevirtual 231, 3) := by decide +kernel
theorem dX11_count_87 : decode cX11_count 87 = .ok (.ireturn, 1) := by decide +kernel
theorem dX11_count_88 : decode cX11_count 88 = .ok (.aload_n 0, 1) := by decide +kernel
theorem dX11_count_89 : decode cX11_count 89 = .ok (.getfield 10, 3) := by decide +kernel
theorem dX11_count_92 : decode cX11_count 92 = .ok (.getfield 61, 3) := by decide +kernel
theorem dX11_count_95 : decode cX11_count 95 = .ok (.ireturn, 1) := by decide +kernel
theorem dX11_count_96 : decode cX11_count 96 = .ok (.aload_n 0, 1) := by decide +kernel
theorem dX11_count_97 : decode cX11_count 97 = .ok (.getfield 98, 3) := by decide +kernel
theorem dX11_count_100 : decode cX11_count 100 = .ok (.ireturn, 1) := by decide +kernel
theorem dX11_count_101 : decode cX11_count 101 = .ok (.aload_n 0, 1) := by decide +kernel
theorem dX11_count_102 : decode cX11_count 102 = .ok (.getfield 197, 3) := by decide +kernel
theorem dX11_count_105 : decode cX11_count 105 = .ok (.ireturn, 1) := by decide +kernel
theorem dX11_count_106 : decode cX11_count 106 = .ok (.bipush (-102), 2) := by decide +kernel
theorem dX11_count_108 : decode cX11_count 108 = .ok (.ireturn, 1) := by decide +kernel
theorem dX11_digest_0 : decode cX11_digest 0 = .ok (.ldc2_w 234, 3) := by decide +kernel
theorem dX11_digest_3 : decode cX11_digest 3 = .ok (.lstore_n 1, 1) := by decide +kernel
theorem dX11_digest_4 : decode cX11_digest 4 = .ok (.iconst 0, 1) := by decide +kernel
theorem dX11_digest_5 : decode cX11_digest 5 = .ok (.istore_n 3, 1) := by decide +kernel
theorem dX11_digest_6 : decode cX11_digest 6 = .ok (.iload_n 3, 1) := by decide +kernel
theorem dX11_digest_7 : decode cX11_digest 7 = .ok (.aload_n 0, 1) := by decide +kernel
theorem dX11_digest_8 : decode cX11_digest 8 = .ok (.getfield 19, 3) := by decide +kernel
theorem dX11_digest_11 : decode cX11_digest 11 = .ok (.getfield 73, 3) := by decide +kernel
theorem dX11_digest_14 : decode cX11_digest 14 = .ok (.if_icmp .ge 39, 3) := by decide +kernel
theorem dX11_digest_17 : decode cX11_digest 17 = .ok (.iconst 0, 1) := by decide +kernel
theorem dX11_digest_18 : decode cX11_digest 18 = .ok (.istore 4, 2) := by decide +kernel
theorem dX11_digest_20 : decode cX11_digest 20 = .ok (.iload 4, 2) := by decide +kernel
theorem dX11_digest_22 : decode cX11_digest 22 = .ok (.iconst 5, 1) := by decide +kernel
theorem dX11_digest_23 : decode cX11_digest 23 = .ok (.if_icmp .gt 24, 3) := by decide +kernel
theorem dX11_digest_26 : decode cX11_digest 26 = .ok (.ldc2_w 236, 3) := by decide +kernel
theorem dX11_digest_29 : decode cX11_digest 29 = .ok (.lload_n 1, 1) := by decide +kernel
theorem dX11_digest_30 : decode cX11_digest 30 = .ok (.lmul, 1) := by decide +kernel
theorem dX11_digest_31 : decode cX11_digest 31 = .ok (.aload_n 0, 1) := by decide +kernel
theorem dX11_digest_32 : decode cX11_digest 32 = .ok (.iload_n 3, 1) := by decide +kernel
theorem dX11_digest_33 : decode cX11_digest 33 = .ok (.iload 4, 2) := by decide +kernel
theorem dX11_digest_35 : decode cX11_digest 35 = .ok (.invokevirtual 238, 3) := by decide +kernel
theorem dX11_digest_38 : decode cX11_digest 38 = .ok (.i2l, 1) := by decide +kernel
theorem dX11_digest_39 : decode cX11_digest 39 = .ok (.ladd, 1) := by decide +kernel
theorem dX11_digest_40 : decode cX11_digest 40 = .ok (.lstore_n 1, 1) := by decide +kernel
theorem dX11_digest_41 : decode cX11_digest 41 = .ok (.iinc 4 1, 3) := by decide +kernel
theorem dX11_digest_44 : decode cX11_digest 44 = .ok (.goto (-24), 3) := by decide +kernel
theorem dX11_digest_47 : decode cX11_digest 47 = .ok (.iinc 3 1, 3) := by decide +kernel
theorem dX11_digest_50 : decode cX11_digest 50 = .ok (.goto (-44), 3) := by decide +kernel
theorem dX11_digest_53 : decode cX11_digest 53 = .ok (.iconst 0, 1) := by decide +kernel
theorem dX11_digest_54 : decode cX11_digest 54 = .ok (.istore_n 3, 1) := by decide +kernel
theorem dX11_digest_55 : decode cX11_digest 55 = .ok (.iload_n 3, 1) := by decide +kernel
theorem dX11_digest_56 : decode cX11_digest 56 = .ok (.aload_n 0, 1) := by decide +kernel
theorem dX11_digest_57 : decode cX11_digest 57 = .ok (.getfield 26, 3) := by decide +kernel
theorem dX11_digest_60 : decode cX11_digest 60 = .ok (.getfield 133, 3) := by decide +kernel
theorem dX11_digest_63 : decode cX11_digest 63 = .ok (.if_icmp .ge 16, 3) := by decide +kernel
theorem dX11_digest_66 : decode cX11_digest 66 = .ok (.aload_n 0, 1) := by decide +kernel
theorem dX11_digest_67 : decode cX11_digest 67 = .ok (.lload_n 1, 1) := by decide +kernel
theorem dX11_digest_68 : decode cX11_digest 68 = .ok (.iload_n 3, 1) := by decide +kernel
theorem dX11_digest_69 : decode cX11_digest 69 = .ok (.invokevirtual 241, 3) := by decide +kernel
theorem dX11_digest_72 : decode cX11_digest 72 = .ok (.lstore_n 1, 1) := by decide +kernel
theorem dX11_digest_73 : decode cX11_digest 73 = .ok (.iinc 3 1, 3) := by decide +kernel
theorem dX11_digest_76 : decode cX11_digest 76 = .ok (.goto (-21), 3) := by decide +kernel
theorem dX11_digest_79 : decode cX11_digest 79 = .ok (.iconst 0, 1) := by decide +kernel
theorem dX11_digest_80 : decode cX11_digest 80 = .ok (.istore_n 3, 1) := by decide +kernel
theorem dX11_digest_81 : decode cX11_digest 81 = .ok (.iload_n 3, 1) := by decide +kernel
theorem dX11_digest_82 : decode cX11_digest 82 = .ok (.aload_n 0, 1) := by decide +kernel
theorem dX11_digest_83 : decode cX11_digest 83 = .ok (.getfield 10, 3) := by decide +kernel
theorem dX11_digest_86 : decode cX11_digest 86 = .ok (.getfield 61, 3) := by decide +kernel
theorem dX11_digest_89 : decode cX11_digest 89 = .ok (.if_icmp .ge 25, 3) := by decide +kernel
theorem dX11_digest_92 : decode cX11_digest 92 = .ok (.ldc2_w 236, 3) := by decide +kernel
theorem dX11_digest_95 : decode cX11_digest 95 = .ok (.lload_n 1, 1) := by decide +kernel
theorem dX11_digest_96 : decode cX11_digest 96 = .ok (.lmul, 1) := by decide +kernel
theorem dX11_digest_97 : decode cX11_digest 97 = .ok (.aload_n 0, 1) := by decide +kernel
theorem dX11_digest_98 : decode cX11_digest 98 = .ok (.getfield 10, 3) := by decide +kernel
theorem dX11_digest_101 : decode cX11_digest 101 = .ok (.iload_n 3, 1) := by decide +kernel
theorem dX11_digest_102 : decode cX11_digest 102 = .ok (.invokevirtual 245, 3) := by decide +kernel
theorem dX11_digest_105 : decode cX11_digest 105 = .ok (.i2l, 1) := by decide +kernel
theorem dX11_digest_106 : decode cX11_digest 106 = .ok (.ladd, 1) := by decide +kernel
theorem dX11_digest_107 : decode cX11_digest 107 = .ok (.lstore_n 1, 1) := by decide +kernel
theorem dX11_digest_108 : decode cX11_digest 108 = .ok (.iinc 3 1, 3) := by decide +kernel
theorem dX11_digest_111 : decode cX11_digest 111 = .ok (.goto (-30), 3) := by decide +kernel
theorem dX11_digest_114 : decode cX11_digest 114 = .ok (.iconst 0, 1) := by decide +kernel
theorem dX11_digest_115 : decode cX11_digest 115 = .ok (.istore_n 3, 1) := by decide +kernel
theorem dX11_digest_116 : decode cX11_digest 116 = .ok (.iload_n 3, 1) := by decide +kernel
theorem dX11_digest_117 : decode cX11_digest 117 = .ok (.bipush 7, 2) := by decide +kernel
theorem dX11_digest_119 : decode cX11_digest 119 = .ok (.if_icmp .gt 22, 3) := by decide +kernel
theorem dX11_digest_122 : decode cX11_digest 122 = .ok (.ldc2_w 236, 3) := by decide +kernel
theorem dX11_digest_125 : decode cX11_digest 125 = .ok (.lload_n 1, 1) := by decide +kernel
theorem dX11_digest_126 : decode cX11_digest 126 = .ok (.lmul, 1) := by decide +kernel
theorem dX11_digest_127 : decode cX11_digest 127 = .ok (.aload_n 0, 1) := by decide +kernel
theorem dX11_digest_128 : decode cX11_digest 128 = .ok (.iload_n 3, 1) := by decide +kernel
theorem dX11_digest_129 : decode cX11_digest 129 = .ok (.invokevirtual 248, 3) := by decide +kernel
theorem dX11_digest_132 : decode cX11_digest 132 = .ok (.i2l, 1) := by decide +kernel
theorem dX11_digest_133 : decode cX11_digest 133 = .ok (.ladd, 1) := by decide +kernel
theorem dX11_digest_134 : decode cX11_digest 134 = .ok (.lstore_n 1, 1) := by decide +kernel
theorem dX11_digest_135 : decode cX11_digest 135 = .ok (.iinc 3 1, 3) := by decide +kernel
theorem dX11_digest_138 : decode cX11_digest 138 = .ok (.goto (-22), 3) := by decide +kernel
theorem dX11_digest_141 : decode cX11_digest 141 = .ok (.lload_n 1, 1) := by decide +kernel
theorem dX11_digest_142 : decode cX11_digest 142 = .ok (.lreturn, 1) := by decide +kernel
theorem dX11_mixedThing_0 : decode cX11_mixedThing 0 = .ok (.lload_n 1, 1) := by decide +kernel
theorem dX11_mixedThing_1 : decode cX11_mixedThing 1 = .ok (.lstore 4, 2) := by decide +kernel
theorem dX11_mixedThing_3 : decode cX11_mixedThing 3 = .ok (.iconst 0, 1) := by decide +kernel
theorem dX11_mixedThing_4 : decode cX11_mixedThing 4 = .ok (.istore 6, 2) := by decide +kernel
theorem dX11_mixedThing_6 : decode cX11_mixedThing 6 = .ok (.iload 6, 2) := by decide +kernel
theorem dX11_mixedThing_8 : decode cX11_mixedThing 8 = .ok (.bipush 6, 2) := by decide +kernel
theorem dX11_mixedThing_10 : decode cX11_mixedThing 10 = .ok (.if_icmp .gt 26, 3) := by decide +kernel
theorem dX11_mixedThing_13 : decode cX11_mixedThing 13 = .ok (.ldc2_w 236, 3) := by decide +kernel
theorem dX11_mixedThing_16 : decode cX11_mixedThing 16 = .ok (.lload 4, 2) := by decide +kernel
theorem dX11_mixedThing_18 : decode cX11_mixedThing 18 = .ok (.lmul, 1) := by decide +kernel
theorem dX11_mixedThing_19 : decode cX11_mixedThing 19 = .ok (.aload_n 0, 1) := by decide +kernel
theorem dX11_mixedThing_20 : decode cX11_mixedThing 20 = .ok (.iload_n 3, 1) := by decide +kernel
theorem dX11_mixedThing_21 : decode cX11_mixedThing 21 = .ok (.iload 6, 2) := by decide +kernel
theorem dX11_mixedThing_23 : decode cX11_mixedThing 23 = .ok (.invokevirtual 251, 3) := by decide +kernel
theorem dX11_mixedThing_26 : decode cX11_mixedThing 26 = .ok (.i2l, 1) := by decide +kernel
theorem dX11_mixedThing_27 : decode cX11_mixedThing 27 = .ok (.ladd, 1) := by decide +kernel
theorem dX11_mixedThing_28 : decode cX11_mixedThing 28 = .ok (.lstore 4, 2) := by decide +kernel
theorem dX11_mixedThing_30 : decode cX11_mixedThing 30 = .ok (.iinc 6 1, 3) := by decide +kernel
theorem dX11_mixedThing_33 : decode cX11_mixedThing 33 = .ok (.goto (-27), 3) := by decide +kernel
theorem dX11_mixedThing_36 : decode cX11_mixedThing 36 = .ok (.ldc2_w 236, 3) := by decide +kernel
theorem dX11_mixedThing_39 : decode cX11_mixedThing 39 = .ok (.lload 4, 2) := by decide +kernel
theorem dX11_mixedThing_41 : decode cX11_mixedThing 41 = .ok (.lmul, 1) := by decide +kernel
theorem dX11_mixedThing_42 : decode cX11_mixedThing 42 = .ok (.aload_n 0, 1) := by decide +kernel
theorem dX11_mixedThing_43 : decode cX11_mixedThing 43 = .ok (.iload_n 3, 1) := by decide +kernel
theorem dX11_mixedThing_44 : decode cX11_mixedThing 44 = .ok (.invokevirtual 254, 3) := by decide +kernel
theorem dX11_mixedThing_47 : decode cX11_mixedThing 47 = .ok (.i2l, 1) := by decide +kernel
theorem dX11_mixedThing_48 : decode cX11_mixedThing 48 = .ok (.ladd, 1) := by decide +kernel
theorem dX11_mixedThing_49 : decode cX11_mixedThing 49 = .ok (.lstore 4, 2) := by decide +kernel
theorem dX11_mixedThing_51 : decode cX11_mixedThing 51 = .ok (.iconst 0, 1) := by decide +kernel
theorem dX11_mixedThing_52 : decode cX11_mixedThing 52 = .ok (.istore 6, 2) := by decide +kernel
theorem dX11_mixedThing_54 : decode cX11_mixedThing 54 = .ok (.iload 6, 2) := by decide +kernel
theorem dX11_mixedThing_56 : decode cX11_mixedThing 56 = .ok (.iconst 3, 1) := by decide +kernel
theorem dX11_mixedThing_57 : decode cX11_mixedThing 57 = .ok (.if_icmp .gt 27, 3) := by decide +kernel
theorem dX11_mixedThing_60 : decode cX11_mixedThing 60 = .ok (.ldc2_w 236, 3) := by decide +kernel
theorem dX11_mixedThing_63 : decode cX11_mixedThing 63 = .ok (.lload 4, 2) := by decide +kernel
theorem dX11_mixedThing_65 : decode cX11_mixedThing 65 = .ok (.lmul, 1) := by decide +kernel
theorem dX11_mixedThing_66 : decode cX11_mixedThing 66 = .ok (.aload_n 0, 1) := by decide +kernel
theorem dX11_mixedThing_67 : decode cX11_mixedThing 67 = .ok (.iload_n 3, 1) := by decide +kernel
theorem dX11_mixedThing_68 : decode cX11_mixedThing 68 = .ok (.iconst 0, 1) := by decide +kernel
theorem dX11_mixedThing_69 : decode cX11_mixedThing 69 = .ok (.iload 6, 2) := by decide +kernel
theorem dX11_mixedThing_71 : decode cX11_mixedThing 71 = .ok (.invokevirtual 257, 3) := by decide +kernel
theorem dX11_mixedThing_74 : decode cX11_mixedThing 74 = .ok (.i2l, 1) := by decide +kernel
theorem dX11_mixedThing_75 : decode cX11_mixedThing 75 = .ok (.ladd, 1) := by decide +kernel
theorem dX11_mixedThing_76 : decode cX11_mixedThing 76 = .ok (.lstore 4, 2) := by decide +kernel
theorem dX11_mixedThing_78 : decode cX11_mixedThing 78 = .ok (.iinc 6 1, 3) := by decide +kernel
theorem dX11_mixedThing_81 : decode cX11_mixedThing 81 = .ok (.goto (-27), 3) := by decide +kernel
theorem dX11_mixedThing_84 : decode cX11_mixedThing 84 = .ok (.lload 4, 2) := by decide +kernel
theorem dX11_mixedThing_86 : decode cX11_mixedThing 86 = .ok (.lreturn, 1) := by decide +kernel
theorem dX11_isOfKind_0 : decode cX11_isOfKind 0 = .ok (.iload_n 1, 1) := by decide +kernel
theorem dX11_isOfKind_1 : decode cX11_isOfKind 1 = .ok (.tableswitch 57 0 4 #[35, 37, 42, 47, 52], 35) := by decide +kernel
theorem dX11_isOfKind_36 : decode cX11_isOfKind 36 = .ok (.iconst 1, 1) := by decide +kernel
theorem dX11_isOfKind_37 : decode cX11_isOfKind 37 = .ok (.ireturn, 1) := by decide +kernel
theorem dX11_isOfKind_38 : decode cX11_isOfKind 38 = .ok (.aload_n 0, 1) := by decide +kernel
theorem dX11_isOfKind_39 : decode cX11_isOfKind 39 = .ok (.instanceof 260, 3) := by decide +kernel
theorem dX11_isOfKind_42 : decode cX11_isOfKind 42 = .ok (.ireturn, 1) := by decide +kernel
theorem dX11_isOfKind_43 : decode cX11_isOfKind 43 = .ok (.aload_n 0, 1) := by decide +kernel
theorem dX11_isOfKind_44 : decode cX11_isOfKind 44 = .ok (.instanceof 262, 3) := by decide +kernel
theorem dX11_isOfKind_47 : decode cX11_isOfKind 47 = .ok (.ireturn, 1) := by decide +kernel
theorem dX11_isOfKind_48 : decode cX11_isOfKind 48 = .ok (.aload_n 0, 1) := by decide +kernel
theorem dX11_isOfKind_49 : decode cX11_isOfKind 49 = .ok (.instanceof 264, 3) := by decide +kernel
theorem dX11_isOfKind_52 : decode cX11_isOfKind 52 = .ok (.ireturn, 1) := by decide +kernel
theorem dX11_isOfKind_53 : decode cX11_isOfKind 53 = .ok (.aload_n 0, 1) := by decide +kernel
theorem dX11_isOfKind_54 : decode cX11_isOfKind 54 = .ok (.instanceof 266, 3) := by decide +kernel
theorem dX11_isOfKind_57 : decode cX11_isOfKind 57 = .ok (.ireturn, 1) := by decide +kernel
theorem dX11_isOfKind_58 : decode cX11_isOfKind 58 = .ok (.iconst 0, 1) := by decide +kernel
theorem dX11_isOfKind_59 : decode cX11_isOfKind 59 = .ok (.ireturn, 1) := by decide +kernel
theorem dX11_isState_0 : decode cX11_isState 0 = .ok (.iload_n 0, 1) := by decide +kernel
theorem dX11_isState_1 : decode cX11_isState 1 = .ok (.ifCond .lt 14, 3) := by decide +kernel
theorem dX11_isState_4 : decode cX11_isState 4 = .ok (.iload_n 0, 1) := by decide +kernel
theorem dX11_isState_5 : decode cX11_isState 5 = .ok (.sipush 512, 3) := by decide +kernel
theorem dX11_isState_8 : decode cX11_isState 8 = .ok (.if_icmp .ge 7, 3) := by decide +kernel
theorem dX11_isState_11 : decode cX11_isState 11 = .ok (.iconst 1, 1) := by decide +kernel
theorem dX11_isState_12 : decode cX11_isState 12 = .ok (.goto 4, 3) := by decide +kernel
theorem dX11_isState_15 : decode cX11_isState 15 = .ok (.iconst 0, 1) := by decide +kernel
theorem dX11_isState_16 : decode cX11_isState 16 = .ok (.ireturn, 1) := by decide +kernel
theorem dX11_traitOf_0 : decode cX11_traitOf 0 = .ok (.iload_n 0, 1) := by decide +kernel
theorem dX11_traitOf_1 : decode cX11_traitOf 1 = .ok (.iconst 3, 1) := by decide +kernel
theorem dX11_traitOf_2 : decode cX11_traitOf 2 = .ok (.iload_n 1, 1) := by decide +kernel
theorem dX11_traitOf_3 : decode cX11_traitOf 3 = .ok (.imul, 1) := by decide +kernel
theorem dX11_traitOf_4 : decode cX11_traitOf 4 = .ok (.ishr, 1) := by decide +kernel
theorem dX11_traitOf_5 : decode cX11_traitOf 5 = .ok (.bipush 7, 2) := by decide +kernel
theorem dX11_traitOf_7 : decode cX11_traitOf 7 = .ok (.iand, 1) := by decide +kernel
theorem dX11_traitOf_8 : decode cX11_traitOf 8 = .ok (.ireturn, 1) := by decide +kernel
theorem dX11_traitSum_0 : decode cX11_traitSum 0 = .ok (.iload_n 0, 1) := by decide +kernel
theorem dX11_traitSum_1 : decode cX11_traitSum 1 = .ok (.iconst 0, 1) := by decide +kernel
theorem dX11_traitSum_2 : decode cX11_traitSum 2 = .ok (.invokestatic 142, 3) := by decide +kernel
theorem dX11_traitSum_5 : decode cX11_traitSum 5 = .ok (.iload_n 0, 1) := by decide +kernel
theorem dX11_traitSum_6 : decode cX11_traitSum 6 = .ok (.iconst 1, 1) := by decide +kernel
theorem dX11_traitSum_7 : decode cX11_traitSum 7 = .ok (.invokestatic 142, 3) := by decide +kernel
theorem dX11_traitSum_10 : decode cX11_traitSum 10 = .ok (.iadd, 1) := by decide +kernel
theorem dX11_traitSum_11 : decode cX11_traitSum 11 = .ok (.iload_n 0, 1) := by decide +kernel
theorem dX11_traitSum_12 : decode cX11_traitSum 12 = .ok (.iconst 2, 1) := by decide +kernel
theorem dX11_traitSum_13 : decode cX11_traitSum 13 = .ok (.invokestatic 142, 3) := by decide +kernel
theorem dX11_traitSum_16 : decode cX11_traitSum 16 = .ok (.iadd, 1) := by decide +kernel
theorem dX11_traitSum_17 : decode cX11_traitSum 17 = .ok (.ireturn, 1) := by decide +kernel
theorem dX11_at_0 : decode cX11_at 0 = .ok (.iload_n 1, 1) := by decide +kernel
theorem dX11_at_1 : decode cX11_at 1 = .ok (.ifCond .lt 15, 3) := by decide +kernel
theorem dX11_at_4 : decode cX11_at 4 = .ok (.iload_n 1, 1) := by decide +kernel
theorem dX11_at_5 : decode cX11_at 5 = .ok (.aload_n 0, 1) := by decide +kernel
theorem dX11_at_6 : decode cX11_at 6 = .ok (.arraylength, 1) := by decide +kernel
theorem dX11_at_7 : decode cX11_at 7 = .ok (.if_icmp .ge 9, 3) := by decide +kernel
theorem dX11_at_10 : decode cX11_at 10 = .ok (.aload_n 0, 1) := by decide +kernel
theorem dX11_at_11 : decode cX11_at 11 = .ok (.iload_n 1, 1) := by decide +kernel
theorem dX11_at_12 : decode cX11_at 12 = .ok (.iaload, 1) := by decide +kernel
theorem dX11_at_13 : decode cX11_at 13 = .ok (.goto 4, 3) := by decide +kernel
theorem dX11_at_16 : decode cX11_at 16 = .ok (.iconst 0, 1) := by decide +kernel
theorem dX11_at_17 : decode cX11_at 17 = .ok (.ireturn, 1) := by decide +kernel
theorem dX11_put_0 : decode cX11_put 0 = .ok (.iload_n 1, 1) := by decide +kernel
theorem dX11_put_1 : decode cX11_put 1 = .ok (.ifCond .lt 13, 3) := by decide +kernel
theorem dX11_put_4 : decode cX11_put 4 = .ok (.iload_n 1, 1) := by decide +kernel
theorem dX11_put_5 : decode cX11_put 5 = .ok (.aload_n 0, 1) := by decide +kernel
theorem dX11_put_6 : decode cX11_put 6 = .ok (.arraylength, 1) := by decide +kernel
theorem dX11_put_7 : decode cX11_put 7 = .ok (.if_icmp .ge 7, 3) := by decide +kernel
theorem dX11_put_10 : decode cX11_put 10 = .ok (.aload_n 0, 1) := by decide +kernel
theorem dX11_put_11 : decode cX11_put 11 = .ok (.iload_n 1, 1) := by decide +kernel
theorem dX11_put_12 : decode cX11_put 12 = .ok (.iload_n 2, 1) := by decide +kernel
theorem dX11_put_13 : decode cX11_put 13 = .ok (.iastore, 1) := by decide +kernel
theorem dX11_put_14 : decode cX11_put 14 = .ok (.return_, 1) := by decide +kernel
theorem dX11_fill_0 : decode cX11_fill 0 = .ok (.iconst 0, 1) := by decide +kernel
theorem dX11_fill_1 : decode cX11_fill 1 = .ok (.istore_n 2, 1) := by decide +kernel
theorem dX11_fill_2 : decode cX11_fill 2 = .ok (.iload_n 2, 1) := by decide +kernel
theorem dX11_fill_3 : decode cX11_fill 3 = .ok (.aload_n 0, 1) := by decide +kernel
theorem dX11_fill_4 : decode cX11_fill 4 = .ok (.arraylength, 1) := by decide +kernel
theorem dX11_fill_5 : decode cX11_fill 5 = .ok (.if_icmp .ge 13, 3) := by decide +kernel
theorem dX11_fill_8 : decode cX11_fill 8 = .ok (.aload_n 0, 1) := by decide +kernel
theorem dX11_fill_9 : decode cX11_fill 9 = .ok (.iload_n 2, 1) := by decide +kernel
theorem dX11_fill_10 : decode cX11_fill 10 = .ok (.iload_n 1, 1) := by decide +kernel
theorem dX11_fill_11 : decode cX11_fill 11 = .ok (.iastore, 1) := by decide +kernel
theorem dX11_fill_12 : decode cX11_fill 12 = .ok (.iinc 2 1, 3) := by decide +kernel
theorem dX11_fill_15 : decode cX11_fill 15 = .ok (.goto (-13), 3) := by decide +kernel
theorem dX11_fill_18 : decode cX11_fill 18 = .ok (.return_, 1) := by decide +kernel
theorem dX12_init_0 : decode cX12_init 0 = .ok (.aload_n 0, 1) := by decide +kernel
theorem dX12_init_1 : decode cX12_init 1 = .ok (.invokespecial 1, 3) := by decide +kernel
theorem dX12_init_4 : decode cX12_init 4 = .ok (.aload_n 0, 1) := by decide +kernel
theorem dX12_init_5 : decode cX12_init 5 = .ok (.bipush 6, 2) := by decide +kernel
theorem dX12_init_7 : decode cX12_init 7 = .ok (.newarray .int, 2) := by decide +kernel
theorem dX12_init_9 : decode cX12_init 9 = .ok (.putfield 7, 3) := by decide +kernel
theorem dX12_init_12 : decode cX12_init 12 = .ok (.aload_n 0, 1) := by decide +kernel
theorem dX12_init_13 : decode cX12_init 13 = .ok (.bipush 6, 2) := by decide +kernel
theorem dX12_init_15 : decode cX12_init 15 = .ok (.newarray .int, 2) := by decide +kernel
theorem dX12_init_17 : decode cX12_init 17 = .ok (.putfield 13, 3) := by decide +kernel
theorem dX12_init_20 : decode cX12_init 20 = .ok (.aload_n 0, 1) := by decide +kernel
theorem dX12_init_21 : decode cX12_init 21 = .ok (.bipush 6, 2) := by decide +kernel
theorem dX12_init_23 : decode cX12_init 23 = .ok (.newarray .int, 2) := by decide +kernel
theorem dX12_init_25 : decode cX12_init 25 = .ok (.putfield 16, 3) := by decide +kernel
theorem dX12_init_28 : decode cX12_init 28 = .ok (.aload_n 0, 1) := by decide +kernel
theorem dX12_init_29 : decode cX12_init 29 = .ok (.bipush 6, 2) := by decide +kernel
theorem dX12_init_31 : decode cX12_init 31 = .ok (.newarray .int, 2) := by decide +kernel
theorem dX12_init_33 : decode cX12_init 33 = .ok (.putfield 19, 3) := by decide +kernel
theorem dX12_init_36 : decode cX12_init 36 = .ok (.aload_n 0, 1) := by decide +kernel
theorem dX12_init_37 : decode cX12_init 37 = .ok (.iconst 4, 1) := by decide +kernel
theorem dX12_init_38 : decode cX12_init 38 = .ok (.newarray .int, 2) := by decide +kernel
theorem dX12_init_40 : decode cX12_init 40 = .ok (.putfield 22, 3) := by decide +kernel
theorem dX12_init_43 : decode cX12_init 43 = .ok (.aload_n 0, 1) := by decide +kernel
theorem dX12_init_44 : decode cX12_init 44 = .ok (.iconst 4, 1) := by decide +kernel
theorem dX12_init_45 : decode cX12_init 45 = .ok (.newarray .int, 2) := by decide +kernel
theorem dX12_init_47 : decode cX12_init 47 = .ok (.putfield 25, 3) := by decide +kernel
theorem dX12_init_50 : decode cX12_init 50 = .ok (.aload_n 0, 1) := by decide +kernel
theorem dX12_init_51 : decode cX12_init 51 = .ok (.iconst 4, 1) := by decide +kernel
theorem dX12_init_52 : decode cX12_init 52 = .ok (.newarray .int, 2) := by decide +kernel
theorem dX12_init_54 : decode cX12_init 54 = .ok (.putfield 28, 3) := by decide +kernel
theorem dX12_init_57 : decode cX12_init 57 = .ok (.aload_n 0, 1) := by decide +kernel
theorem dX12_init_58 : decode cX12_init 58 = .ok (.iconst 4, 1) := by decide +kernel
theorem dX12_init_59 : decode cX12_init 59 = .ok (.newarray .int, 2) := by decide +kernel
theorem dX12_init_61 : decode cX12_init 61 = .ok (.putfield 31, 3) := by decide +kernel
theorem dX12_init_64 : decode cX12_init 64 = .ok (.aload_n 0, 1) := by decide +kernel
theorem dX12_init_65 : decode cX12_init 65 = .ok (.bipush 30, 2) := by decide +kernel
theorem dX12_init_67 : decode cX12_init 67 = .ok (.newarray .byte, 2) := by decide +kernel
theorem dX12_init_69 : decode cX12_init 69 = .ok (.putfield 34, 3) := by decide +kernel
theorem dX12_init_72 : decode cX12_init 72 = .ok (.aload_n 0, 1) := by decide +kernel
theorem dX12_init_73 : decode cX12_init 73 = .ok (.bipush 6, 2) := by decide +kernel
theorem dX12_init_75 : decode cX12_init 75 = .ok (.newarray .int, 2) := by decide +kernel
theorem dX12_init_77 : decode cX12_init 77 = .ok (.putfield 38, 3) := by decide +kernel
theorem dX12_init_80 : decode cX12_init 80 = .ok (.aload_n 0, 1) := by decide +kernel
theorem dX12_init_81 : decode cX12_init 81 = .ok (.bipush 6, 2) := by decide +kernel
theorem dX12_init_83 : decode cX12_init 83 = .ok (.newarray .int, 2) := by decide +kernel
theorem dX12_init_85 : decode cX12_init 85 = .ok (.putfield 41, 3) := by decide +kernel
theorem dX12_init_88 : decode cX12_init 88 = .ok (.aload_n 0, 1) := by decide +kernel
theorem dX12_init_89 : decode cX12_init 89 = .ok (.bipush 6, 2) := by decide +kernel
theorem dX12_init_91 : decode cX12_init 91 = .ok (.newarray .int, 2) := by decide +kernel
theorem dX12_init_93 : decode cX12_init 93 = .ok (.putfield 44, 3) := by decide +kernel
theorem dX12_init_96 : decode cX12_init 96 = .ok (.aload_n 0, 1) := by decide +kernel
theorem dX12_init_97 : decode cX12_init 97 = .ok (.bipush 6, 2) := by decide +kernel
theorem dX12_init_99 : decode cX12_init 99 = .ok (.newarray .int, 2) := by decide +kernel
theorem dX12_init_101 : decode cX12_init 101 = .ok (.putfield 47, 3) := by decide +kernel
theorem dX12_init_104 : decode cX12_init 104 = .ok (.aload_n 0, 1) := by decide +kernel
theorem dX12_init_105 : decode cX12_init 105 = .ok (.sipush 512, 3) := by decide +kernel
theorem dX12_init_108 : decode cX12_init 108 = .ok (.newarray .int, 2) := by decide +kernel
theorem dX12_init_110 : decode cX12_init 110 = .ok (.putfield 50, 3) := by decide +kernel
theorem dX12_init_113 : decode cX12_init 113 = .ok (.aload_n 0, 1) := by decide +kernel
theorem dX12_init_114 : decode cX12_init 114 = .ok (.sipush 512, 3) := by decide +kernel
theorem dX12_init_117 : decode cX12_init 117 = .ok (.newarray .int, 2) := by decide +kernel
theorem dX12_init_119 : decode cX12_init 119 = .ok (.putfield 53, 3) := by decide +kernel
theorem dX12_init_122 : decode cX12_init 122 = .ok (.aload_n 0, 1) := by decide +kernel
theorem dX12_init_123 : decode cX12_init 123 = .ok (.sipush 512, 3) := by decide +kernel
theorem dX12_init_126 : decode cX12_init 126 = .ok (.newarray .int, 2) := by decide +kernel
theorem dX12_init_128 : decode cX12_init 128 = .ok (.putfield 56, 3) := by decide +kernel
theorem dX12_init_131 : decode cX12_init 131 = .ok (.aload_n 0, 1) := by decide +kernel
theorem dX12_init_132 : decode cX12_init 132 = .ok (.sipush 512, 3) := by decide +kernel
theorem dX12_init_135 : decode cX12_init 135 = .ok (.newarray .int, 2) := by decide +kernel
theorem dX12_init_137 : decode cX12_init 137 = .ok (.putfield 59, 3) := by decide +kernel
theorem dX12_init_140 : decode cX12_init 140 = .ok (.aload_n 0, 1) := by decide +kernel
theorem dX12_init_141 : decode cX12_init 141 = .ok (.iconst 4, 1) := by decide +kernel
theorem dX12_init_142 : decode cX12_init 142 = .ok (.newarray .int, 2) := by decide +kernel
theorem dX12_init_144 : decode cX12_init 144 = .ok (.putfield 62, 3) := by decide +kernel
theorem dX12_init_147 : decode cX12_init 147 = .ok (.aload_n 0, 1) := by decide +kernel
theorem dX12_init_148 : decode cX12_init 148 = .ok (.iconst 4, 1) := by decide +kernel
theorem dX12_init_149 : decode cX12_init 149 = .ok (.newarray .int, 2) := by decide +kernel
theorem dX12_init_151 : decode cX12_init 151 = .ok (.putfield 65, 3) := by decide +kernel
theorem dX12_init_154 : decode cX12_init 154 = .ok (.aload_n 0, 1) := by decide +kernel
theorem dX12_init_155 : decode cX12_init 155 = .ok (.iconst 4, 1) := by decide +kernel
theorem dX12_init_156 : decode cX12_init 156 = .ok (.newarray .int, 2) := by decide +kernel
theorem dX12_init_158 : decode cX12_init 158 = .ok (.putfield 68, 3) := by decide +kernel
theorem dX12_init_161 : decode cX12_init 161 = .ok (.aload_n 0, 1) := by decide +kernel
theorem dX12_init_162 : decode cX12_init 162 = .ok (.iconst 4, 1) := by decide +kernel
theorem dX12_init_163 : decode cX12_init 163 = .ok (.newarray .int, 2) := by decide +kernel
theorem dX12_init_165 : decode cX12_init 165 = .ok (.putfield 71, 3) := by decide +kernel
theorem dX12_init_168 : decode cX12_init 168 = .ok (.aload_n 0, 1) := by decide +kernel
theorem dX12_init_169 : decode cX12_init 169 = .ok (.iconst 4, 1) := by decide +kernel
theorem dX12_init_170 : decode cX12_init 170 = .ok (.newarray .int, 2) := by decide +kernel
theorem dX12_init_172 : decode cX12_init 172 = .ok (.putfield 74, 3) := by decide +kernel
theorem dX12_init_175 : decode cX12_init 175 = .ok (.return_, 1) := by decide +kernel
theorem dX12_within_0 : decode cX12_within 0 = .ok (.iload_n 0, 1) := by decide +kernel
theorem dX12_within_1 : decode cX12_within 1 = .ok (.iload_n 1, 1) := by decide +kernel
theorem dX12_within_2 : decode cX12_within 2 = .ok (.if_icmp .lt 12, 3) := by decide +kernel
theorem dX12_within_5 : decode cX12_within 5 = .ok (.iload_n 0, 1) := by decide +kernel
theorem dX12_within_6 : decode cX12_within 6 = .ok (.iload_n 2, 1) := by decide +kernel
theorem dX12_within_7 : decode cX12_within 7 = .ok (.if_icmp .gt 7, 3) := by decide +kernel
theorem dX12_within_10 : decode cX12_within 10 = .ok (.iconst 1, 1) := by decide +kernel
theorem dX12_within_11 : decode cX12_within 11 = .ok (.goto 4, 3) := by decide +kernel
theorem dX12_within_14 : decode cX12_within 14 = .ok (.iconst 0, 1) := by decide +kernel
theorem dX12_within_15 : decode cX12_within 15 = .ok (.ireturn, 1) := by decide +kernel
theorem dX12_size_0 : decode cX12_size 0 = .ok (.iconst 0, 1) := by decide +kernel
theorem dX12_size_1 : decode cX12_size 1 = .ok (.istore_n 1, 1) := by decide +kernel
theorem dX12_size_2 : decode cX12_size 2 = .ok (.iconst 0, 1) := by decide +kernel
theorem dX12_size_3 : decode cX12_size 3 = .ok (.istore_n 2, 1) := by decide +kernel
theorem dX12_size_4 : decode cX12_size 4 = .ok (.iload_n 2, 1) := by decide +kernel
theorem dX12_size_5 : decode cX12_size 5 = .ok (.bipush 6, 2) := by decide +kernel
theorem dX12_size_7 : decode cX12_size 7 = .ok (.if_icmp .ge 17, 3) := by decide +kernel
theorem dX12_size_10 : decode cX12_size 10 = .ok (.iload_n 1, 1) := by decide +kernel
theorem dX12_size_11 : decode cX12_size 11 = .ok (.iload_n 0, 1) := by decide +kernel
theorem dX12_size_12 : decode cX12_size 12 = .ok (.iload_n 2, 1) := by decide +kernel
theorem dX12_size_13 : decode cX12_size 13 = .ok (.ishr, 1) := by decide +kernel
theorem dX12_size_14 : decode cX12_size 14 = .ok (.iconst 1, 1) := by decide +kernel
theorem dX12_size_15 : decode cX12_size 15 = .ok (.iand, 1) := by decide +kernel
theorem dX12_size_16 : decode cX12_size 16 = .ok (.iadd, 1) := by decide +kernel
theorem dX12_size_17 : decode cX12_size 17 = .ok (.istore_n 1, 1) := by decide +kernel
theorem dX12_size_18 : decode cX12_size 18 = .ok (.iinc 2 1, 3) := by decide +kernel
theorem dX12_size_21 : decode cX12_size 21 = .ok (.goto (-17), 3) := by decide +kernel
theorem dX12_size_24 : decode cX12_size 24 = .ok (.iload_n 1, 1) := by decide +kernel
theorem dX12_size_25 : decode cX12_size 25 = .ok (.ireturn, 1) := by decide +kernel
theorem dX12_letter_0 : decode cX12_letter 0 = .ok (.iload_n 1, 1) := by decide +kernel
theorem dX12_letter_1 : decode cX12_letter 1 = .ok (.bipush 32, 2) := by decide +kernel
theorem dX12_letter_3 : decode cX12_letter 3 = .ok (.bipush 126, 2) := by decide +kernel
theorem dX12_letter_5 : decode cX12_letter 5 = .ok (.invokestatic 77, 3) := by decide +kernel
theorem dX12_letter_8 : decode cX12_letter 8 = .ok (.ifCond .ne 6, 3) := by decide +kernel
theorem dX12_letter_11 : decode cX12_letter 11 = .ok (.bipush (-102), 2) := by decide +kernel
theorem dX12_letter_13 : decode cX12_letter 13 = .ok (.ireturn, 1) := by decide +kernel
theorem dX12_letter_14 : decode cX12_letter 14 = .ok (.aload_n 0, 1) := by decide +kernel
theorem dX12_letter_15 : decode cX12_letter 15 = .ok (.getfield 81, 3) := by decide +kernel
theorem dX12_letter_18 : decode cX12_letter 18 = .ok (.bipush 30, 2) := by decide +kernel
theorem dX12_letter_20 : decode cX12_letter 20 = .ok (.if_icmp .ne 6, 3) := by decide +kernel
theorem dX12_letter_23 : decode cX12_letter 23 = .ok (.bipush (-104), 2) := by decide +kernel
theorem dX12_letter_25 : decode cX12_letter 25 = .ok (.ireturn, 1) := by decide +kernel
theorem dX12_letter_26 : decode cX12_letter 26 = .ok (.aload_n 0, 1) := by decide +kernel
theorem dX12_letter_27 : decode cX12_letter 27 = .ok (.getfield 34, 3) := by decide +kernel
theorem dX12_letter_30 : decode cX12_letter 30 = .ok (.aload_n 0, 1) := by decide +kernel
theorem dX12_letter_31 : decode cX12_letter 31 = .ok (.getfield 81, 3) := by decide +kernel
theorem dX12_letter_34 : decode cX12_letter 34 = .ok (.iload_n 1, 1) := by decide +kernel
theorem dX12_letter_35 : decode cX12_letter 35 = .ok (.i2b, 1) := by decide +kernel
theorem dX12_letter_36 : decode cX12_letter 36 = .ok (.bastore, 1) := by decide +kernel
theorem dX12_letter_37 : decode cX12_letter 37 = .ok (.aload_n 0, 1) := by decide +kernel
theorem dX12_letter_38 : decode cX12_letter 38 = .ok (.dup, 1) := by decide +kernel
theorem dX12_letter_39 : decode cX12_letter 39 = .ok (.getfield 81, 3) := by decide +kernel
theorem dX12_letter_42 : decode cX12_letter 42 = .ok (.iconst 1, 1) := by decide +kernel
theorem dX12_letter_43 : decode cX12_letter 43 = .ok (.iadd, 1) := by decide +kernel
theorem dX12_letter_44 : decode cX12_letter 44 = .ok (.putfield 81, 3) := by decide +kernel
theorem dX12_letter_47 : decode cX12_letter 47 = .ok (.aload_n 0, 1) := by decide +kernel
theorem dX12_letter_48 : decode cX12_letter 48 = .ok (.getfield 81, 3) := by decide +kernel
theorem dX12_letter_51 : decode cX12_letter 51 = .ok (.ireturn, 1) := by decide +kernel
theorem dX12_blank_0 : decode cX12_blank 0 = .ok (.aload_n 0, 1) := by decide +kernel
theorem dX12_blank_1 : decode cX12_blank 1 = .ok (.getfield 81, 3) := by decide +kernel
theorem dX12_blank_4 : decode cX12_blank 4 = .ok (.istore_n 1, 1) := by decide +kernel
theorem dX12_blank_5 : decode cX12_blank 5 = .ok (.aload_n 0, 1) := by decide +kernel
theorem dX12_blank_6 : decode cX12_blank 6 = .ok (.iconst 0, 1) := by decide +kernel
theorem dX12_blank_7 : decode cX12_blank 7 = .ok (.putfield 81, 3) := by decide +kernel
theorem dX12_blank_10 : decode cX12_blank 10 = .ok (.iload_n 1, 1) := by decide +kernel
theorem dX12_blank_11 : decode cX12_blank 11 = .ok (.ireturn, 1) := by decide +kernel
theorem dX12_kindBy_0 : decode cX12_kindBy 0 = .ok (.iload_n 0, 1) := by decide +kernel
theorem dX12_kindBy_1 : decode cX12_kindBy 1 = .ok (.lookupswitch 61 #[(97, 51), (100, 59), (115, 53), (116, 55), (119, 57)], 51) := by decide +kernel
theorem dX12_kindBy_52 : decode cX12_kindBy 52 = .ok (.iconst 0, 1) := by decide +kernel
theorem dX12_kindBy_53 : decode cX12_kindBy 53 = .ok (.ireturn, 1) := by decide +kernel
theorem dX12_kindBy_54 : decode cX12_kindBy 54 = .ok (.iconst 1, 1) := by decide +kernel
theorem dX12_kindBy_55 : decode cX12_kindBy 55 = .ok (.ireturn, 1) := by decide +kernel
theorem dX12_kindBy_56 : decode cX12_kindBy 56 = .ok (.iconst 2, 1) := by decide +kernel
theorem dX12_kindBy_57 : decode cX12_kindBy 57 = .ok (.ireturn, 1) := by decide +kernel
theorem dX12_kindBy_58 : decode cX12_kindBy 58 = .ok (.iconst 3, 1) := by decide +kernel
theorem dX12_kindBy_59 : decode cX12_kindBy 59 = .ok (.ireturn, 1) := by decide +kernel
theorem dX12_kindBy_60 : decode cX12_kindBy 60 = .ok (.iconst 4, 1) := by decide +kernel
theorem dX12_kindBy_61 : decode cX12_kindBy 61 = .ok (.ireturn, 1) := by decide +kernel
theorem dX12_kindBy_62 : decode cX12_kindBy 62 = .ok (.iconst (-1), 1) := by decide +kernel
theorem dX12_kindBy_63 : decode cX12_kindBy 63 = .ok (.ireturn, 1) := by decide +kernel
theorem dX12_isGood_0 : decode cX12_isGood 0 = .ok (.aload_n 0, 1) := by decide +kernel
theorem dX12_isGood_1 : decode cX12_isGood 1 = .ok (.getfield 34, 3) := by decide +kernel
theorem dX12_isGood_4 : decode cX12_isGood 4 = .ok (.iload_n 1, 1) := by decide +kernel
theorem dX12_isGood_5 : decode cX12_isGood 5 = .ok (.baload, 1) := by decide +kernel
theorem dX12_isGood_6 : decode cX12_isGood 6 = .ok (.bipush 48, 2) := by decide +kernel
theorem dX12_isGood_8 : decode cX12_isGood 8 = .ok (.isub, 1) := by decide +kernel
theorem dX12_isGood_9 : decode cX12_isGood 9 = .ok (.istore_n 2, 1) := by decide +kernel
theorem dX12_isGood_10 : decode cX12_isGood 10 = .ok (.iload_n 1, 1) := by decide +kernel
theorem dX12_isGood_11 : decode cX12_isGood 11 = .ok (.iconst 5, 1) := by decide +kernel
theorem dX12_isGood_12 : decode cX12_isGood 12 = .ok (.idiv, 1) := by decide +kernel
theorem dX12_isGood_13 : decode cX12_isGood 13 = .ok (.istore_n 3, 1) := by decide +kernel
theorem dX12_isGood_14 : decode cX12_isGood 14 = .ok (.iload_n 1, 1) := by decide +kernel
theorem dX12_isGood_15 : decode cX12_isGood 15 = .ok (.iconst 5, 1) := by decide +kernel
theorem dX12_isGood_16 : decode cX12_isGood 16 = .ok (.irem, 1) := by decide +kernel
theorem dX12_isGood_17 : decode cX12_isGood 17 = .ok (.tableswitch 72 0 3 #[31, 50, 57, 65], 31) := by decide +kernel
theorem dX12_isGood_48 : decode cX12_isGood 48 = .ok (.aload_n 0, 1) := by decide +kernel
theorem dX12_isGood_49 : decode cX12_isGood 49 = .ok (.getfield 34, 3) := by decide +kernel
theorem dX12_isGood_52 : decode cX12_isGood 52 = .ok (.iload_n 1, 1) := by decide +kernel
theorem dX12_isGood_53 : decode cX12_isGood 53 = .ok (.baload, 1) := by decide +kernel
theorem dX12_isGood_54 : decode cX12_isGood 54 = .ok (.invokestatic 85, 3) := by decide +kernel
theorem dX12_isGood_57 : decode cX12_isGood 57 = .ok (.iconst (-1), 1) := by decide +kernel
theorem dX12_isGood_58 : decode cX12_isGood 58 = .ok (.if_icmp .eq 7, 3) := by decide +kernel
theorem dX12_isGood_61 : decode cX12_isGood 61 = .ok (.iconst 1, 1) := by decide +kernel
theorem dX12_isGood_62 : decode cX12_isGood 62 = .ok (.goto 4, 3) := by decide +kernel
theorem dX12_isGood_65 : decode cX12_isGood 65 = .ok (.iconst 0, 1) := by decide +kernel
theorem dX12_isGood_66 : decode cX12_isGood 66 = .ok (.ireturn, 1) := by decide +kernel
theorem dX12_isGood_67 : decode cX12_isGood 67 = .ok (.iload_n 2, 1) := by decide +kernel
theorem dX12_isGood_68 : decode cX12_isGood 68 = .ok (.iconst 0, 1) := by decide +kernel
theorem dX12_isGood_69 : decode cX12_isGood 69 = .ok (.iconst 2, 1) := by decide +kernel
theorem dX12_isGood_70 : decode cX12_isGood 70 = .ok (.invokestatic 77, 3) := by decide +kernel
theorem dX12_isGood_73 : decode cX12_isGood 73 = .ok (.ireturn, 1) := by decide +kernel
theorem dX12_isGood_74 : decode cX12_isGood 74 = .ok (.iload_n 2, 1) := by decide +kernel
theorem dX12_isGood_75 : decode cX12_isGood 75 = .ok (.iconst 1, 1) := by decide +kernel
theorem dX12_isGood_76 : decode cX12_isGood 76 = .ok (.bipush 7, 2) := by decide +kernel
theorem dX12_isGood_78 : decode cX12_isGood 78 = .ok (.invokestatic 77, 3) := by decide +kernel
theorem dX12_isGood_81 : decode cX12_isGood 81 = .ok (.ireturn, 1) := by decide +kernel
theorem dX12_isGood_82 : decode cX12_isGood 82 = .ok (.iload_n 2, 1) := by decide +kernel
theorem dX12_isGood_83 : decode cX12_isGood 83 = .ok (.iconst 1, 1) := by decide +kernel
theorem dX12_isGood_84 : decode cX12_isGood 84 = .ok (.iconst 5, 1) := by decide +kernel
theorem dX12_isGood_85 : decode cX12_isGood 85 = .ok (.invokestatic 77, 3) := by decide +kernel
theorem dX12_isGood_88 : decode cX12_isGood 88 = .ok (.ireturn, 1) := by decide +kernel
theorem dX12_isGood_89 : decode cX12_isGood 89 = .ok (.aload_n 0, 1) := by decide +kernel
theorem dX12_isGood_90 : decode cX12_isGood 90 = .ok (.getfield 34, 3) := by decide +kernel
theorem dX12_isGood_93 : decode cX12_isGood 93 = .ok (.iload_n 1, 1) := by decide +kernel
theorem dX12_isGood_94 : decode cX12_isGood 94 = .ok (.baload, 1) := by decide +kernel
theorem dX12_isGood_95 : decode cX12_isGood 95 = .ok (.bipush 44, 2) := by decide +kernel
theorem dX12_isGood_97 : decode cX12_isGood 97 = .ok (.if_icmp .ne 12, 3) := by decide +kernel
theorem dX12_isGood_100 : decode cX12_isGood 100 = .ok (.iload_n 3, 1) := by decide +kernel
theorem dX12_isGood_101 : decode cX12_isGood 101 = .ok (.iconst 5, 1) := by decide +kernel
theorem dX12_isGood_102 : decode cX12_isGood 102 = .ok (.if_icmp .ge 7, 3) := by decide +kernel
theorem dX12_isGood_105 : decode cX12_isGood 105 = .ok (.iconst 1, 1) := by decide +kernel
theorem dX12_isGood_106 : decode cX12_isGood 106 = .ok (.goto 4, 3) := by decide +kernel
theorem dX12_isGood_109 : decode cX12_isGood 109 = .ok (.iconst 0, 1) := by decide +kernel
theorem dX12_isGood_110 : decode cX12_isGood 110 = .ok (.ireturn, 1) := by decide +kernel
theorem dX12_readTown_0 : decode cX12_readTown 0 = .ok (.iconst 0, 1) := by decide +kernel
theorem dX12_readTown_1 : decode cX12_readTown 1 = .ok (.istore_n 1, 1) := by decide +kernel
theorem dX12_readTown_2 : decode cX12_readTown 2 = .ok (.iload_n 1, 1) := by decide +kernel
theorem dX12_readTown_3 : decode cX12_readTown 3 = .ok (.aload_n 0, 1) := by decide +kernel
theorem dX12_readTown_4 : decode cX12_readTown 4 = .ok (.getfield 81, 3) := by decide +kernel
theorem dX12_readTown_7 : decode cX12_readTown 7 = .ok (.if_icmp .ge 17, 3) := by decide +kernel
theorem dX12_readTown_10 : decode cX12_readTown 10 = .ok (.aload_n 0, 1) := by decide +kernel
theorem dX12_readTown_11 : decode cX12_readTown 11 = .ok (.iload_n 1, 1) := by decide +kernel
theorem dX12_readTown_12 : decode cX12_readTown 12 = .ok (.invokevirtual 89, 3) := by decide +kernel
theorem dX12_readTown_15 : decode cX12_readTown 15 = .ok (.ifCond .eq 9, 3) := by decide +kernel
theorem dX12_readTown_18 : decode cX12_readTown 18 = .ok (.iinc 1 1, 3) := by decide +kernel
theorem dX12_readTown_21 : decode cX12_readTown 21 = .ok (.goto (-19), 3) := by decide +kernel
theorem dX12_readTown_24 : decode cX12_readTown 24 = .ok (.aload_n 0, 1) := by decide +kernel
theorem dX12_readTown_25 : decode cX12_readTown 25 = .ok (.iload_n 1, 1) := by decide +kernel
theorem dX12_readTown_26 : decode cX12_readTown 26 = .ok (.putfield 93, 3) := by decide +kernel
theorem dX12_readTown_29 : decode cX12_readTown 29 = .ok (.aload_n 0, 1) := by decide +kernel
theorem dX12_readTown_30 : decode cX12_readTown 30 = .ok (.iload_n 1, 1) := by decide +kernel
theorem dX12_readTown_31 : decode cX12_readTown 31 = .ok (.aload_n 0, 1) := by decide +kernel
theorem dX12_readTown_32 : decode cX12_readTown 32 = .ok (.getfield 81, 3) := by decide +kernel
theorem dX12_readTown_35 : decode cX12_readTown 35 = .ok (.if_icmp .ne 20, 3) := by decide +kernel
theorem dX12_readTown_38 : decode cX12_readTown 38 = .ok (.iload_n 1, 1) := by decide +kernel
theorem dX12_readTown_39 : decode cX12_readTown 39 = .ok (.iconst 5, 1) := by decide +kernel
theorem dX12_readTown_40 : decode cX12_readTown 40 = .ok (.irem, 1) := by decide +kernel
theorem dX12_readTown_41 : decode cX12_readTown 41 = .ok (.iconst 4, 1) := by decide +kernel
theorem dX12_readTown_42 : decode cX12_readTown 42 = .ok (.if_icmp .ne 13, 3) := by decide +kernel
theorem dX12_readTown_45 : decode cX12_readTown 45 = .ok (.iload_n 1, 1) := by decide +kernel
theorem dX12_readTown_46 : decode cX12_readTown 46 = .ok (.bipush 8, 2) := by decide +kernel
theorem dX12_readTown_48 : decode cX12_readTown 48 = .ok (.if_icmp .le 7, 3) := by decide +kernel
theorem dX12_readTown_51 : decode cX12_readTown 51 = .ok (.iconst 1, 1) := by decide +kernel
theorem dX12_readTown_52 : decode cX12_readTown 52 = .ok (.goto 4, 3) := by decide +kernel
theorem dX12_readTown_55 : decode cX12_readTown 55 = .ok (.iconst 0, 1) := by decide +kernel
theorem dX12_readTown_56 : decode cX12_readTown 56 = .ok (.putfield 96, 3) := by decide +kernel
theorem dX12_readTown_59 : decode cX12_readTown 59 = .ok (.aload_n 0, 1) := by decide +kernel
theorem dX12_readTown_60 : decode cX12_readTown 60 = .ok (.iload_n 1, 1) := by decide +kernel
theorem dX12_readTown_61 : decode cX12_readTown 61 = .ok (.iconst 1, 1) := by decide +kernel
theorem dX12_readTown_62 : decode cX12_readTown 62 = .ok (.iadd, 1) := by decide +kernel
theorem dX12_readTown_63 : decode cX12_readTown 63 = .ok (.iconst 5, 1) := by decide +kernel
theorem dX12_readTown_64 : decode cX12_readTown 64 = .ok (.idiv, 1) := by decide +kernel
theorem dX12_readTown_65 : decode cX12_readTown 65 = .ok (.putfield 100, 3) := by decide +kernel
theorem dX12_readTown_68 : decode cX12_readTown 68 = .ok (.iconst 0, 1) := by decide +kernel
theorem dX12_readTown_69 : decode cX12_readTown 69 = .ok (.istore_n 2, 1) := by decide +kernel
theorem dX12_readTown_70 : decode cX12_readTown 70 = .ok (.iload_n 2, 1) := by decide +kernel
theorem dX12_readTown_71 : decode cX12_readTown 71 = .ok (.aload_n 0, 1) := by decide +kernel
theorem dX12_readTown_72 : decode cX12_readTown 72 = .ok (.getfield 100, 3) := by decide +kernel
theorem dX12_readTown_75 : decode cX12_readTown 75 = .ok (.if_icmp .ge 90, 3) := by decide +kernel
theorem dX12_readTown_78 : decode cX12_readTown 78 = .ok (.aload_n 0, 1) := by decide +kernel
theorem dX12_readTown_79 : decode cX12_readTown 79 = .ok (.getfield 96, 3) := by decide +kernel
theorem dX12_readTown_82 : decode cX12_readTown 82 = .ok (.ifCond .eq 83, 3) := by decide +kernel
theorem dX12_readTown_85 : decode cX12_readTown 85 = .ok (.aload_n 0, 1) := by decide +kernel
theorem dX12_readTown_86 : decode cX12_readTown 86 = .ok (.getfield 38, 3) := by decide +kernel
theorem dX12_readTown_89 : decode cX12_readTown 89 = .ok (.iload_n 2, 1) := by decide +kernel
theorem dX12_readTown_90 : decode cX12_readTown 90 = .ok (.aload_n 0, 1) := by decide +kernel
theorem dX12_readTown_91 : decode cX12_readTown 91 = .ok (.getfield 34, 3) := by decide +kernel
theorem dX12_readTown_94 : decode cX12_readTown 94 = .ok (.iconst 5, 1) := by decide +kernel
theorem dX12_readTown_95 : decode cX12_readTown 95 = .ok (.iload_n 2, 1) := by decide +kernel
theorem dX12_readTown_96 : decode cX12_readTown 96 = .ok (.imul, 1) := by decide +kernel
theorem dX12_readTown_97 : decode cX12_readTown 97 = .ok (.baload, 1) := by decide +kernel
theorem dX12_readTown_98 : decode cX12_readTown 98 = .ok (.invokestatic 85, 3) := by decide +kernel
theorem dX12_readTown_101 : decode cX12_readTown 101 = .ok (.iastore, 1) := by decide +kernel
theorem dX12_readTown_102 : decode cX12_readTown 102 = .ok (.aload_n 0, 1) := by decide +kernel
theorem dX12_readTown_103 : decode cX12_readTown 103 = .ok (.getfield 41, 3) := by decide +kernel
theorem dX12_readTown_106 : decode cX12_readTown 106 = .ok (.iload_n 2, 1) := by decide +kernel
theorem dX12_readTown_107 : decode cX12_readTown 107 = .ok (.aload_n 0, 1) := by decide +kernel
theorem dX12_readTown_108 : decode cX12_readTown 108 = .ok (.getfield 34, 3) := by decide +kernel
theorem dX12_readTown_111 : decode cX12_readTown 111 = .ok (.iconst 5, 1) := by decide +kernel
theorem dX12_readTown_112 : decode cX12_readTown 112 = .ok (.iload_n 2, 1) := by decide +kernel
theorem dX12_readTown_113 : decode cX12_readTown 113 = .ok (.imul, 1) := by decide +kernel
theorem dX12_readTown_114 : decode cX12_readTown 114 = .ok (.iconst 1, 1) := by decide +kernel
theorem dX12_readTown_115 : decode cX12_readTown 115 = .ok (.iadd, 1) := by decide +kernel
theorem dX12_readTown_116 : decode cX12_readTown 116 = .ok (.baload, 1) := by decide +kernel
theorem dX12_readTown_117 : decode cX12_readTown 117 = .ok (.bipush 48, 2) := by decide +kernel
theorem dX12_readTown_119 : decode cX12_readTown 119 = .ok (.isub, 1) := by decide +kernel
theorem dX12_readTown_120 : decode cX12_readTown 120 = .ok (.iastore, 1) := by decide +kernel
theorem dX12_readTown_121 : decode cX12_readTown 121 = .ok (.aload_n 0, 1) := by decide +kernel
theorem dX12_readTown_122 : decode cX12_readTown 122 = .ok (.getfield 44, 3) := by decide +kernel
theorem dX12_readTown_125 : decode cX12_readTown 125 = .ok (.iload_n 2, 1) := by decide +kernel
theorem dX12_readTown_126 : decode cX12_readTown 126 = .ok (.aload_n 0, 1) := by decide +kernel
theorem dX12_readTown_127 : decode cX12_readTown 127 = .ok (.getfield 34, 3) := by decide +kernel
theorem dX12_readTown_130 : decode cX12_readTown 130 = .ok (.iconst 5, 1) := by decide +kernel
theorem dX12_readTown_131 : decode cX12_readTown 131 = .ok (.iload_n 2, 1) := by decide +kernel
theorem dX12_readTown_132 : decode cX12_readTown 132 = .ok (.imul, 1) := by decide +kernel
theorem dX12_readTown_133 : decode cX12_readTown 133 = .ok (.iconst 2, 1) := by decide +kernel
theorem dX12_readTown_134 : decode cX12_readTown 134 = .ok (.iadd, 1) := by decide +kernel
theorem dX12_readTown_135 : decode cX12_readTown 135 = .ok (.baload, 1) := by decide +kernel
theorem dX12_readTown_136 : decode cX12_readTown 136 = .ok (.bipush 48, 2) := by decide +kernel
theorem dX12_readTown_138 : decode cX12_readTown 138 = .ok (.isub, 1) := by decide +kernel
theorem dX12_readTown_139 : decode cX12_readTown 139 = .ok (.iastore, 1) := by decide +kernel
theorem dX12_readTown_140 : decode cX12_readTown 140 = .ok (.aload_n 0, 1) := by decide +kernel
theorem dX12_readTown_141 : decode cX12_readTown 141 = .ok (.getfield 47, 3) := by decide +kernel
theorem dX12_readTown_144 : decode cX12_readTown 144 = .ok (.iload_n 2, 1) := by decide +kernel
theorem dX12_readTown_145 : decode cX12_readTown 145 = .ok (.aload_n 0, 1) := by decide +kernel
theorem dX12_readTown_146 : decode cX12_readTown 146 = .ok (.getfield 34, 3) := by decide +kernel
theorem dX12_readTown_149 : decode cX12_readTown 149 = .ok (.iconst 5, 1) := by decide +kernel
theorem dX12_readTown_150 : decode cX12_readTown 150 = .ok (.iload_n 2, 1) := by decide +kernel
theorem dX12_readTown_151 : decode cX12_readTown 151 = .ok (.imul, 1) := by decide +kernel
theorem dX12_readTown_152 : decode cX12_readTown 152 = .ok (.iconst 3, 1) := by decide +kernel
theorem dX12_readTown_153 : decode cX12_readTown 153 = .ok (.iadd, 1) := by decide +kernel
theorem dX12_readTown_154 : decode cX12_readTown 154 = .ok (.baload, 1) := by decide +kernel
theorem dX12_readTown_155 : decode cX12_readTown 155 = .ok (.bipush 48, 2) := by decide +kernel
theorem dX12_readTown_157 : decode cX12_readTown 157 = .ok (.isub, 1) := by decide +kernel
theorem dX12_readTown_158 : decode cX12_readTown 158 = .ok (.iastore, 1) := by decide +kernel
theorem dX12_readTown_159 : decode cX12_readTown 159 = .ok (.iinc 2 1, 3) := by decide +kernel
theorem dX12_readTown_162 : decode cX12_readTown 162 = .ok (.goto (-92), 3) := by decide +kernel
theorem dX12_readTown_165 : decode cX12_readTown 165 = .ok (.return_, 1) := by decide +kernel
theorem dX12_readRound_0 : decode cX12_readRound 0 = .ok (.iconst 0, 1) := by decide +kernel
theorem dX12_readRound_1 : decode cX12_readRound 1 = .ok (.istore_n 1, 1) := by decide +kernel
theorem dX12_readRound_2 : decode cX12_readRound 2 = .ok (.iload_n 1, 1) := by decide +kernel
theorem dX12_readRound_3 : decode cX12_readRound 3 = .ok (.aload_n 0, 1) := by decide +kernel
theorem dX12_readRound_4 : decode cX12_readRound 4 = .ok (.getfield 81, 3) := by decide +kernel
theorem dX12_readRound_7 : decode cX12_readRound 7 = .ok (.if_icmp .ge 37, 3) := by decide +kernel
theorem dX12_readRound_10 : decode cX12_readRound 10 = .ok (.iload_n 1, 1) := by decide +kernel
theorem dX12_readRound_11 : decode cX12_readRound 11 = .ok (.bipush 8, 2) := by decide +kernel
theorem dX12_readRound_13 : decode cX12_readRound 13 = .ok (.if_icmp .ge 31, 3) := by decide +kernel
theorem dX12_readRound_16 : decode cX12_readRound 16 = .ok (.aload_n 0, 1) := by decide +kernel
theorem dX12_readRound_17 : decode cX12_readRound 17 = .ok (.getfield 34, 3) := by decide +kernel
theorem dX12_readRound_20 : decode cX12_readRound 20 = .ok (.iload_n 1, 1) := by decide +kernel
theorem dX12_readRound_21 : decode cX12_readRound 21 = .ok (.baload, 1) := by decide +kernel
theorem dX12_readRound_22 : decode cX12_readRound 22 = .ok (.bipush 48, 2) := by decide +kernel
theorem dX12_readRound_24 : decode cX12_readRound 24 = .ok (.isub, 1) := by decide +kernel
theorem dX12_readRound_25 : decode cX12_readRound 25 = .ok (.iconst 0, 1) := by decide +kernel
theorem dX12_readRound_26 : decode cX12_readRound 26 = .ok (.aload_n 0, 1) := by decide +kernel
theorem dX12_readRound_27 : decode cX12_readRound 27 = .ok (.getfield 103, 3) := by decide +kernel
theorem dX12_readRound_30 : decode cX12_readRound 30 = .ok (.iconst 1, 1) := by decide +kernel
theorem dX12_readRound_31 : decode cX12_readRound 31 = .ok (.isub, 1) := by decide +kernel
theorem dX12_readRound_32 : decode cX12_readRound 32 = .ok (.invokestatic 77, 3) := by decide +kernel
theorem dX12_readRound_35 : decode cX12_readRound 35 = .ok (.ifCond .eq 9, 3) := by decide +kernel
theorem dX12_readRound_38 : decode cX12_readRound 38 = .ok (.iinc 1 1, 3) := by decide +kernel
theorem dX12_readRound_41 : decode cX12_readRound 41 = .ok (.goto (-39), 3) := by decide +kernel
theorem dX12_readRound_44 : decode cX12_readRound 44 = .ok (.aload_n 0, 1) := by decide +kernel
theorem dX12_readRound_45 : decode cX12_readRound 45 = .ok (.iload_n 1, 1) := by decide +kernel
theorem dX12_readRound_46 : decode cX12_readRound 46 = .ok (.putfield 93, 3) := by decide +kernel
theorem dX12_readRound_49 : decode cX12_readRound 49 = .ok (.aload_n 0, 1) := by decide +kernel
theorem dX12_readRound_50 : decode cX12_readRound 50 = .ok (.iload_n 1, 1) := by decide +kernel
theorem dX12_readRound_51 : decode cX12_readRound 51 = .ok (.aload_n 0, 1) := by decide +kernel
theorem dX12_readRound_52 : decode cX12_readRound 52 = .ok (.getfield 81, 3) := by decide +kernel
theorem dX12_readRound_55 : decode cX12_readRound 55 = .ok (.if_icmp .ne 11, 3) := by decide +kernel
theorem dX12_readRound_58 : decode cX12_readRound 58 = .ok (.iload_n 1, 1) := by decide +kernel
theorem dX12_readRound_59 : decode cX12_readRound 59 = .ok (.ifCond .le 7, 3) := by decide +kernel
theorem dX12_readRound_62 : decode cX12_readRound 62 = .ok (.iconst 1, 1) := by decide +kernel
theorem dX12_readRound_63 : decode cX12_readRound 63 = .ok (.goto 4, 3) := by decide +kernel
theorem dX12_readRound_66 : decode cX12_readRound 66 = .ok (.iconst 0, 1) := by decide +kernel
theorem dX12_readRound_67 : decode cX12_readRound 67 = .ok (.putfield 96, 3) := by decide +kernel
theorem dX12_readRound_70 : decode cX12_readRound 70 = .ok (.return_, 1) := by decide +kernel
theorem dX12_fault_0 : decode cX12_fault 0 = .ok (.iload_n 1, 1) := by decide +kernel
theorem dX12_fault_1 : decode cX12_fault 1 = .ok (.iconst 0, 1) := by decide +kernel
theorem dX12_fault_2 : decode cX12_fault 2 = .ok (.iconst 1, 1) := by decide +kernel
theorem dX12_fault_3 : decode cX12_fault 3 = .ok (.invokestatic 77, 3) := by decide +kernel
theorem dX12_fault_6 : decode cX12_fault 6 = .ok (.ifCond .ne 6, 3) := by decide +kernel
theorem dX12_fault_9 : decode cX12_fault 9 = .ok (.bipush (-102), 2) := by decide +kernel
theorem dX12_fault_11 : decode cX12_fault 11 = .ok (.ireturn, 1) := by decide +kernel
theorem dX12_fault_12 : decode cX12_fault 12 = .ok (.iload_n 1, 1) := by decide +kernel
theorem dX12_fault_13 : decode cX12_fault 13 = .ok (.ifCond .ne 10, 3) := by decide +kernel
theorem dX12_fault_16 : decode cX12_fault 16 = .ok (.aload_n 0, 1) := by decide +kernel
theorem dX12_fault_17 : decode cX12_fault 17 = .ok (.invokevirtual 106, 3) := by decide +kernel
theorem dX12_fault_20 : decode cX12_fault 20 = .ok (.goto 7, 3) := by decide +kernel
theorem dX12_fault_23 : decode cX12_fault 23 = .ok (.aload_n 0, 1) := by decide +kernel
theorem dX12_fault_24 : decode cX12_fault 24 = .ok (.invokevirtual 109, 3) := by decide +kernel
theorem dX12_fault_27 : decode cX12_fault 27 = .ok (.aload_n 0, 1) := by decide +kernel
theorem dX12_fault_28 : decode cX12_fault 28 = .ok (.getfield 93, 3) := by decide +kernel
theorem dX12_fault_31 : decode cX12_fault 31 = .ok (.ireturn, 1) := by decide +kernel
theorem dX12_town_0 : decode cX12_town 0 = .ok (.aload_n 0, 1) := by decide +kernel
theorem dX12_town_1 : decode cX12_town 1 = .ok (.invokevirtual 106, 3) := by decide +kernel
theorem dX12_town_4 : decode cX12_town 4 = .ok (.aload_n 0, 1) := by decide +kernel
theorem dX12_town_5 : decode cX12_town 5 = .ok (.getfield 96, 3) := by decide +kernel
theorem dX12_town_8 : decode cX12_town 8 = .ok (.ifCond .ne 6, 3) := by decide +kernel
theorem dX12_town_11 : decode cX12_town 11 = .ok (.bipush (-103), 2) := by decide +kernel
theorem dX12_town_13 : decode cX12_town 13 = .ok (.ireturn, 1) := by decide +kernel
theorem dX12_town_14 : decode cX12_town 14 = .ok (.aload_n 0, 1) := by decide +kernel
theorem dX12_town_15 : decode cX12_town 15 = .ok (.aload_n 0, 1) := by decide +kernel
theorem dX12_town_16 : decode cX12_town 16 = .ok (.getfield 100, 3) := by decide +kernel
theorem dX12_town_19 : decode cX12_town 19 = .ok (.putfield 103, 3) := by decide +kernel
theorem dX12_town_22 : decode cX12_town 22 = .ok (.iconst 0, 1) := by decide +kernel
theorem dX12_town_23 : decode cX12_town 23 = .ok (.istore_n 1, 1) := by decide +kernel
theorem dX12_town_24 : decode cX12_town 24 = .ok (.iload_n 1, 1) := by decide +kernel
theorem dX12_town_25 : decode cX12_town 25 = .ok (.aload_n 0, 1) := by decide +kernel
theorem dX12_town_26 : decode cX12_town 26 = .ok (.getfield 103, 3) := by decide +kernel
theorem dX12_town_29 : decode cX12_town 29 = .ok (.if_icmp .ge 57, 3) := by decide +kernel
theorem dX12_town_32 : decode cX12_town 32 = .ok (.aload_n 0, 1) := by decide +kernel
theorem dX12_town_33 : decode cX12_town 33 = .ok (.getfield 7, 3) := by decide +kernel
theorem dX12_town_36 : decode cX12_town 36 = .ok (.iload_n 1, 1) := by decide +kernel
theorem dX12_town_37 : decode cX12_town 37 = .ok (.aload_n 0, 1) := by decide +kernel
theorem dX12_town_38 : decode cX12_town 38 = .ok (.getfield 38, 3) := by decide +kernel
theorem dX12_town_41 : decode cX12_town 41 = .ok (.iload_n 1, 1) := by decide +kernel
theorem dX12_town_42 : decode cX12_town 42 = .ok (.iaload, 1) := by decide +kernel
theorem dX12_town_43 : decode cX12_town 43 = .ok (.iastore, 1) := by decide +kernel
theorem dX12_town_44 : decode cX12_town 44 = .ok (.aload_n 0, 1) := by decide +kernel
theorem dX12_town_45 : decode cX12_town 45 = .ok (.getfield 13, 3) := by decide +kernel
theorem dX12_town_48 : decode cX12_town 48 = .ok (.iload_n 1, 1) := by decide +kernel
theorem dX12_town_49 : decode cX12_town 49 = .ok (.aload_n 0, 1) := by decide +kernel
theorem dX12_town_50 : decode cX12_town 50 = .ok (.getfield 41, 3) := by decide +kernel
theorem dX12_town_53 : decode cX12_town 53 = .ok (.iload_n 1, 1) := by decide +kernel
theorem dX12_town_54 : decode cX12_town 54 = .ok (.iaload, 1) := by decide +kernel
theorem dX12_town_55 : decode cX12_town 55 = .ok (.iastore, 1) := by decide +kernel
theorem dX12_town_56 : decode cX12_town 56 = .ok (.aload_n 0, 1) := by decide +kernel
theorem dX12_town_57 : decode cX12_town 57 = .ok (.getfield 16, 3) := by decide +kernel
theorem dX12_town_60 : decode cX12_town 60 = .ok (.iload_n 1, 1) := by decide +kernel
theorem dX12_town_61 : decode cX12_town 61 = .ok (.aload_n 0, 1) := by decide +kernel
theorem dX12_town_62 : decode cX12_town 62 = .ok (.getfield 44, 3) := by decide +kernel
theorem dX12_town_65 : decode cX12_town 65 = .ok (.iload_n 1, 1) := by decide +kernel
theorem dX12_town_66 : decode cX12_town 66 = .ok (.iaload, 1) := by decide +kernel
theorem dX12_town_67 : decode cX12_town 67 = .ok (.iastore, 1) := by decide +kernel
theorem dX12_town_68 : decode cX12_town 68 = .ok (.aload_n 0, 1) := by decide +kernel
theorem dX12_town_69 : decode cX12_town 69 = .ok (.getfield 19, 3) := by decide +kernel
theorem dX12_town_72 : decode cX12_town 72 = .ok (.iload_n 1, 1) := by decide +kernel
theorem dX12_town_73 : decode cX12_town 73 = .ok (.aload_n 0, 1) := by decide +kernel
theorem dX12_town_74 : decode cX12_town 74 = .ok (.getfield 47, 3) := by decide +kernel
theorem dX12_town_77 : decode cX12_town 77 = .ok (.iload_n 1, 1) := by decide +kernel
theorem dX12_town_78 : decode cX12_town 78 = .ok (.iaload, 1) := by decide +kernel
theorem dX12_town_79 : decode cX12_town 79 = .ok (.iastore, 1) := by decide +kernel
theorem dX12_town_80 : decode cX12_town 80 = .ok (.iinc 1 1, 3) := by decide +kernel
theorem dX12_town_83 : decode cX12_town 83 = .ok (.goto (-59), 3) := by decide +kernel
theorem dX12_town_86 : decode cX12_town 86 = .ok (.aload_n 0, 1) := by decide +kernel
theorem dX12_town_87 : decode cX12_town 87 = .ok (.dup, 1) := by decide +kernel
theorem dX12_town_88 : decode cX12_town 88 = .ok (.getfield 112, 3) := by decide +kernel
theorem dX12_town_91 : decode cX12_town 91 = .ok (.iconst 1, 1) := by decide +kernel
theorem dX12_town_92 : decode cX12_town 92 = .ok (.iadd, 1) := by decide +kernel
theorem dX12_town_93 : decode cX12_town 93 = .ok (.putfield 112, 3) := by decide +kernel
theorem dX12_town_96 : decode cX12_town 96 = .ok (.aload_n 0, 1) := by decide +kernel
theorem dX12_town_97 : decode cX12_town 97 = .ok (.iconst 0, 1) := by decide +kernel
theorem dX12_town_98 : decode cX12_town 98 = .ok (.putfield 115, 3) := by decide +kernel
theorem dX12_town_101 : decode cX12_town 101 = .ok (.aload_n 0, 1) := by decide +kernel
theorem dX12_town_102 : decode cX12_town 102 = .ok (.iconst 0, 1) := by decide +kernel
theorem dX12_town_103 : decode cX12_town 103 = .ok (.putfield 118, 3) := by decide +kernel
theorem dX12_town_106 : decode cX12_town 106 = .ok (.aload_n 0, 1) := by decide +kernel
theorem dX12_town_107 : decode cX12_town 107 = .ok (.iconst 0, 1) := by decide +kernel
theorem dX12_town_108 : decode cX12_town 108 = .ok (.putfield 81, 3) := by decide +kernel
theorem dX12_town_111 : decode cX12_town 111 = .ok (.aload_n 0, 1) := by decide +kernel
theorem dX12_town_112 : decode cX12_town 112 = .ok (.getfield 103, 3) := by decide +kernel
theorem dX12_town_115 : decode cX12_town 115 = .ok (.ireturn, 1) := by decide +kernel
theorem dX12_isBorrower_0 : decode cX12_isBorrower 0 = .ok (.iload_n 1, 1) := by decide +kernel
theorem dX12_isBorrower_1 : decode cX12_isBorrower 1 = .ok (.iconst 0, 1) := by decide +kernel
theorem dX12_isBorrower_2 : decode cX12_isBorrower 2 = .ok (.aload_n 0, 1) := by decide +kernel
theorem dX12_isBorrower_3 : decode cX12_isBorrower 3 = .ok (.getfield 103, 3) := by decide +kernel
theorem dX12_isBorrower_6 : decode cX12_isBorrower 6 = .ok (.iconst 1, 1) := by decide +kernel
theorem dX12_isBorrower_7 : decode cX12_isBorrower 7 = .ok (.isub, 1) := by decide +kernel
theorem dX12_isBorrower_8 : decode cX12_isBorrower 8 = .ok (.invokestatic 77, 3) := by decide +kernel
theorem dX12_isBorrower_11 : decode cX12_isBorrower 11 = .ok (.ireturn, 1) := by decide +kernel
theorem dX12_isThing_0 : decode cX12_isThing 0 = .ok (.iload_n 1, 1) := by decide +kernel
theorem dX12_isThing_1 : decode cX12_isThing 1 = .ok (.iconst 0, 1) := by decide +kernel
theorem dX12_isThing_2 : decode cX12_isThing 2 = .ok (.aload_n 0, 1) := by decide +kernel
theorem dX12_isThing_3 : decode cX12_isThing 3 = .ok (.getfield 115, 3) := by decide +kernel
theorem dX12_isThing_6 : decode cX12_isThing 6 = .ok (.iconst 1, 1) := by decide +kernel
theorem dX12_isThing_7 : decode cX12_isThing 7 = .ok (.isub, 1) := by decide +kernel
theorem dX12_isThing_8 : decode cX12_isThing 8 = .ok (.invokestatic 77, 3) := by decide +kernel
theorem dX12_isThing_11 : decode cX12_isThing 11 = .ok (.ireturn, 1) := by decide +kernel
theorem dX12_isState_0 : decode cX12_isState 0 = .ok (.iload_n 0, 1) := by decide +kernel
theorem dX12_isState_1 : decode cX12_isState 1 = .ok (.iconst 0, 1) := by decide +kernel
theorem dX12_isState_2 : decode cX12_isState 2 = .ok (.sipush 511, 3) := by decide +kernel
theorem dX12_isState_5 : decode cX12_isState 5 = .ok (.invokestatic 77, 3) := by decide +kernel
theorem dX12_isState_8 : decode cX12_isState 8 = .ok (.ireturn, 1) := by decide +kernel
theorem dX12_traitIn_0 : decode cX12_traitIn 0 = .ok (.iload_n 0, 1) := by decide +kernel
theorem dX12_traitIn_1 : decode cX12_traitIn 1 = .ok (.iconst 3, 1) := by decide +kernel
theorem dX12_traitIn_2 : decode cX12_traitIn 2 = .ok (.iload_n 1, 1) := by decide +kernel
theorem dX12_traitIn_3 : decode cX12_traitIn 3 = .ok (.imul, 1) := by decide +kernel
theorem dX12_traitIn_4 : decode cX12_traitIn 4 = .ok (.ishr, 1) := by decide +kernel
theorem dX12_traitIn_5 : decode cX12_traitIn 5 = .ok (.bipush 7, 2) := by decide +kernel
theorem dX12_traitIn_7 : decode cX12_traitIn 7 = .ok (.iand, 1) := by decide +kernel
theorem dX12_traitIn_8 : decode cX12_traitIn 8 = .ok (.ireturn, 1) := by decide +kernel
theorem dX12_with_0 : decode cX12_with 0 = .ok (.iload_n 0, 1) := by decide +kernel
theorem dX12_with_1 : decode cX12_with 1 = .ok (.bipush 7, 2) := by decide +kernel
theorem dX12_with_3 : decode cX12_with 3 = .ok (.iconst 3, 1) := by decide +kernel
theorem dX12_with_4 : decode cX12_with 4 = .ok (.iload_n 1, 1) := by decide +kernel
theorem dX12_with_5 : decode cX12_with 5 = .ok (.imul, 1) := by decide +kernel
theorem dX12_with_6 : decode cX12_with 6 = .ok (.ishl, 1) := by decide +kernel
theorem dX12_with_7 : decode cX12_with 7 = .ok (.iconst (-1), 1) := by decide +kernel
theorem dX12_with_8 : decode cX12_with 8 = .ok (.ixor, 1) := by decide +kernel
theorem dX12_with_9 : decode cX12_with 9 = .ok (.iand, 1) := by decide +kernel
theorem dX12_with_10 : decode cX12_with 10 = .ok (.iload_n 2, 1) := by decide +kernel
theorem dX12_with_11 : decode cX12_with 11 = .ok (.iconst 3, 1) := by decide +kernel
theorem dX12_with_12 : decode cX12_with 12 = .ok (.iload_n 1, 1) := by decide +kernel
theorem dX12_with_13 : decode cX12_with 13 = .ok (.imul, 1) := by decide +kernel
theorem dX12_with_14 : decode cX12_with 14 = .ok (.ishl, 1) := by decide +kernel
theorem dX12_with_15 : decode cX12_with 15 = .ok (.ior, 1) := by decide +kernel
theorem dX12_with_16 : decode cX12_with 16 = .ok (.ireturn, 1) := by decide +kernel
theorem dX12_made_0 : decode cX12_made 0 = .ok (.aload_n 0, 1) := by decide +kernel
theorem dX12_made_1 : decode cX12_made 1 = .ok (.getfield 13, 3) := by decide +kernel
theorem dX12_made_4 : decode cX12_made 4 = .ok (.iload_n 1, 1) := by decide +kernel
theorem dX12_made_5 : decode cX12_made 5 = .ok (.iaload, 1) := by decide +kernel
theorem dX12_made_6 : decode cX12_made 6 = .ok (.istore_n 3, 1) := by decide +kernel
theorem dX12_made_7 : decode cX12_made 7 = .ok (.iload_n 2, 1) := by decide +kernel
theorem dX12_made_8 : decode cX12_made 8 = .ok (.iload_n 3, 1) := by decide +kernel
theorem dX12_made_9 : decode cX12_made 9 = .ok (.invokestatic 121, 3) := by decide +kernel
theorem dX12_made_12 : decode cX12_made 12 = .ok (.istore 4, 2) := by decide +kernel
theorem dX12_made_14 : decode cX12_made 14 = .ok (.aload_n 0, 1) := by decide +kernel
theorem dX12_made_15 : decode cX12_made 15 = .ok (.getfield 7, 3) := by decide +kernel
theorem dX12_made_18 : decode cX12_made 18 = .ok (.iload_n 1, 1) := by decide +kernel
theorem dX12_made_19 : decode cX12_made 19 = .ok (.iaload, 1) := by decide +kernel
theorem dX12_made_20 : decode cX12_made 20 = .ok (.tableswitch 99 0 3 #[32, 50, 62, 73], 32) := by decide +kernel
theorem dX12_made_52 : decode cX12_made 52 = .ok (.iload_n 2, 1) := by decide +kernel
theorem dX12_made_53 : decode cX12_made 53 = .ok (.iload_n 3, 1) := by decide +kernel
theorem dX12_made_54 : decode cX12_made 54 = .ok (.iload 4, 2) := by decide +kernel
theorem dX12_made_56 : decode cX12_made 56 = .ok (.aload_n 0, 1) := by decide +kernel
theorem dX12_made_57 : decode cX12_made 57 = .ok (.getfield 16, 3) := by decide +kernel
theorem dX12_made_60 : decode cX12_made 60 = .ok (.iload_n 1, 1) := by decide +kernel
theorem dX12_made_61 : decode cX12_made 61 = .ok (.iaload, 1) := by decide +kernel
theorem dX12_made_62 : decode cX12_made 62 = .ok (.iadd, 1) := by decide +kernel
theorem dX12_made_63 : decode cX12_made 63 = .ok (.bipush 8, 2) := by decide +kernel
theorem dX12_made_65 : decode cX12_made 65 = .ok (.irem, 1) := by decide +kernel
theorem dX12_made_66 : decode cX12_made 66 = .ok (.invokestatic 125, 3) := by decide +kernel
theorem dX12_made_69 : decode cX12_made 69 = .ok (.ireturn, 1) := by decide +kernel
theorem dX12_made_70 : decode cX12_made 70 = .ok (.iload_n 2, 1) := by decide +kernel
theorem dX12_made_71 : decode cX12_made 71 = .ok (.iload_n 3, 1) := by decide +kernel
theorem dX12_made_72 : decode cX12_made 72 = .ok (.aload_n 0, 1) := by decide +kernel
theorem dX12_made_73 : decode cX12_made 73 = .ok (.getfield 16, 3) := by decide +kernel
theorem dX12_made_76 : decode cX12_made 76 = .ok (.iload_n 1, 1) := by decide +kernel
theorem dX12_made_77 : decode cX12_made 77 = .ok (.iaload, 1) := by decide +kernel
theorem dX12_made_78 : decode cX12_made 78 = .ok (.invokestatic 125, 3) := by decide +kernel
theorem dX12_made_81 : decode cX12_made 81 = .ok (.ireturn, 1) := by decide +kernel
theorem dX12_made_82 : decode cX12_made 82 = .ok (.iload_n 2, 1) := by decide +kernel
theorem dX12_made_83 : decode cX12_made 83 = .ok (.iload_n 3, 1) := by decide +kernel
theorem dX12_made_84 : decode cX12_made 84 = .ok (.bipush 7, 2) := by decide +kernel
theorem dX12_made_86 : decode cX12_made 86 = .ok (.iload 4, 2) := by decide +kernel
theorem dX12_made_88 : decode cX12_made 88 = .ok (.isub, 1) := by decide +kernel
theorem dX12_made_89 : decode cX12_made 89 = .ok (.invokestatic 125, 3) := by decide +kernel
theorem dX12_made_92 : decode cX12_made 92 = .ok (.ireturn, 1) := by decide +kernel
theorem dX12_made_93 : decode cX12_made 93 = .ok (.iload_n 3, 1) := by decide +kernel
theorem dX12_made_94 : decode cX12_made 94 = .ok (.iconst 1, 1) := by decide +kernel
theorem dX12_made_95 : decode cX12_made 95 = .ok (.iadd, 1) := by decide +kernel
theorem dX12_made_96 : decode cX12_made 96 = .ok (.iconst 3, 1) := by decide +kernel
theorem dX12_made_97 : decode cX12_made 97 = .ok (.irem, 1) := by decide +kernel
theorem dX12_made_98 : decode cX12_made 98 = .ok (.istore 5, 2) := by decide +kernel
theorem dX12_made_100 : decode cX12_made 100 = .ok (.iload_n 2, 1) := by decide +kernel
theorem dX12_made_101 : decode cX12_made 101 = .ok (.iload_n 3, 1) := by decide +kernel
theorem dX12_made_102 : decode cX12_made 102 = .ok (.iload_n 2, 1) := by decide +kernel
theorem dX12_made_103 : decode cX12_made 103 = .ok (.iload 5, 2) := by decide +kernel
theorem dX12_made_105 : decode cX12_made 105 = .ok (.invokestatic 121, 3) := by decide +kernel
theorem dX12_made_108 : decode cX12_made 108 = .ok (.invokestatic 125, 3) := by decide +kernel
theorem dX12_made_111 : decode cX12_made 111 = .ok (.iload 5, 2) := by decide +kernel
theorem dX12_made_113 : decode cX12_made 113 = .ok (.iload 4, 2) := by decide +kernel
theorem dX12_made_115 : decode cX12_made 115 = .ok (.invokestatic 125, 3) := by decide +kernel
theorem dX12_made_118 : decode cX12_made 118 = .ok (.ireturn, 1) := by decide +kernel
theorem dX12_made_119 : decode cX12_made 119 = .ok (.iload_n 2, 1) := by decide +kernel
theorem dX12_made_120 : decode cX12_made 120 = .ok (.iload_n 3, 1) := by decide +kernel
theorem dX12_made_121 : decode cX12_made 121 = .ok (.iconst 2, 1) := by decide +kernel
theorem dX12_made_122 : decode cX12_made 122 = .ok (.iload 4, 2) := by decide +kernel
theorem dX12_made_124 : decode cX12_made 124 = .ok (.imul, 1) := by decide +kernel
theorem dX12_made_125 : decode cX12_made 125 = .ok (.bipush 8, 2) := by decide +kernel
theorem dX12_made_127 : decode cX12_made 127 = .ok (.irem, 1) := by decide +kernel
theorem dX12_made_128 : decode cX12_made 128 = .ok (.invokestatic 125, 3) := by decide +kernel
theorem dX12_made_131 : decode cX12_made 131 = .ok (.ireturn, 1) := by decide +kernel
theorem dX12_whoseThing_0 : decode cX12_whoseThing 0 = .ok (.iconst (-1), 1) := by decide +kernel
theorem dX12_whoseThing_1 : decode cX12_whoseThing 1 = .ok (.istore_n 2, 1) := by decide +kernel
theorem dX12_whoseThing_2 : decode cX12_whoseThing 2 = .ok (.iconst 0, 1) := by decide +kernel
theorem dX12_whoseThing_3 : decode cX12_whoseThing 3 = .ok (.istore_n 3, 1) := by decide +kernel
theorem dX12_whoseThing_4 : decode cX12_whoseThing 4 = .ok (.iload_n 3, 1) := by decide +kernel
theorem dX12_whoseThing_5 : decode cX12_whoseThing 5 = .ok (.aload_n 0, 1) := by decide +kernel
theorem dX12_whoseThing_6 : decode cX12_whoseThing 6 = .ok (.getfield 115, 3) := by decide +kernel
theorem dX12_whoseThing_9 : decode cX12_whoseThing 9 = .ok (.if_icmp .ge 25, 3) := by decide +kernel
theorem dX12_whoseThing_12 : decode cX12_whoseThing 12 = .ok (.aload_n 0, 1) := by decide +kernel
theorem dX12_whoseThing_13 : decode cX12_whoseThing 13 = .ok (.getfield 25, 3) := by decide +kernel
theorem dX12_whoseThing_16 : decode cX12_whoseThing 16 = .ok (.iload_n 3, 1) := by decide +kernel
theorem dX12_whoseThing_17 : decode cX12_whoseThing 17 = .ok (.iaload, 1) := by decide +kernel
theorem dX12_whoseThing_18 : decode cX12_whoseThing 18 = .ok (.iload_n 1, 1) := by decide +kernel
theorem dX12_whoseThing_19 : decode cX12_whoseThing 19 = .ok (.if_icmp .ne 7, 3) := by decide +kernel
theorem dX12_whoseThing_22 : decode cX12_whoseThing 22 = .ok (.iload_n 3, 1) := by decide +kernel
theorem dX12_whoseThing_23 : decode cX12_whoseThing 23 = .ok (.goto 4, 3) := by decide +kernel
theorem dX12_whoseThing_26 : decode cX12_whoseThing 26 = .ok (.iload_n 2, 1) := by decide +kernel
theorem dX12_whoseThing_27 : decode cX12_whoseThing 27 = .ok (.istore_n 2, 1) := by decide +kernel
theorem dX12_whoseThing_28 : decode cX12_whoseThing 28 = .ok (.iinc 3 1, 3) := by decide +kernel
theorem dX12_whoseThing_31 : decode cX12_whoseThing 31 = .ok (.goto (-27), 3) := by decide +kernel
theorem dX12_whoseThing_34 : decode cX12_whoseThing 34 = .ok (.iload_n 2, 1) := by decide +kernel
theorem dX12_whoseThing_35 : decode cX12_whoseThing 35 = .ok (.ireturn, 1) := by decide +kernel
theorem dX12_borrowerNow_0 : decode cX12_borrowerNow 0 = .ok (.aload_n 0, 1) := by decide +kernel
theorem dX12_borrowerNow_1 : decode cX12_borrowerNow 1 = .ok (.iload_n 1, 1) := by decide +kernel
theorem dX12_borrowerNow_2 : decode cX12_borrowerNow 2 = .ok (.invokevirtual 129, 3) := by decide +kernel
theorem dX12_borrowerNow_5 : decode cX12_borrowerNow 5 = .ok (.istore_n 3, 1) := by decide +kernel
theorem dX12_borrowerNow_6 : decode cX12_borrowerNow 6 = .ok (.iload_n 2, 1) := by decide +kernel
theorem dX12_borrowerNow_7 : decode cX12_borrowerNow 7 = .ok (.tableswitch 63 0 4 #[33, 40, 47, 54, 61], 33) := by decide +kernel
theorem dX12_borrowerNow_40 : decode cX12_borrowerNow 40 = .ok (.aload_n 0, 1) := by decide +kernel
theorem dX12_borrowerNow_41 : decode cX12_borrowerNow 41 = .ok (.getfield 7, 3) := by decide +kernel
theorem dX12_borrowerNow_44 : decode cX12_borrowerNow 44 = .ok (.iload_n 1, 1) := by decide +kernel
theorem dX12_borrowerNow_45 : decode cX12_borrowerNow 45 = .ok (.iaload, 1) := by decide +kernel
theorem dX12_borrowerNow_46 : decode cX12_borrowerNow 46 = .ok (.ireturn, 1) := by decide +kernel
theorem dX12_borrowerNow_47 : decode cX12_borrowerNow 47 = .ok (.aload_n 0, 1) := by decide +kernel
theorem dX12_borrowerNow_48 : decode cX12_borrowerNow 48 = .ok (.getfield 13, 3) := by decide +kernel
theorem dX12_borrowerNow_51 : decode cX12_borrowerNow 51 = .ok (.iload_n 1, 1) := by decide +kernel
theorem dX12_borrowerNow_52 : decode cX12_borrowerNow 52 = .ok (.iaload, 1) := by decide +kernel
theorem dX12_borrowerNow_53 : decode cX12_borrowerNow 53 = .ok (.ireturn, 1) := by decide +kernel
theorem dX12_borrowerNow_54 : decode cX12_borrowerNow 54 = .ok (.aload_n 0, 1) := by decide +kernel
theorem dX12_borrowerNow_55 : decode cX12_borrowerNow 55 = .ok (.getfield 16, 3) := by decide +kernel
theorem dX12_borrowerNow_58 : decode cX12_borrowerNow 58 = .ok (.iload_n 1, 1) := by decide +kernel
theorem dX12_borrowerNow_59 : decode cX12_borrowerNow 59 = .ok (.iaload, 1) := by decide +kernel
theorem dX12_borrowerNow_60 : decode cX12_borrowerNow 60 = .ok (.ireturn, 1) := by decide +kernel
theorem dX12_borrowerNow_61 : decode cX12_borrowerNow 61 = .ok (.aload_n 0, 1) := by decide +kernel
theorem dX12_borrowerNow_62 : decode cX12_borrowerNow 62 = .ok (.getfield 19, 3) := by decide +kernel
theorem dX12_borrowerNow_65 : decode cX12_borrowerNow 65 = .ok (.iload_n 1, 1) := by decide +kernel
theorem dX12_borrowerNow_66 : decode cX12_borrowerNow 66 = .ok (.iaload, 1) := by decide +kernel
theorem dX12_borrowerNow_67 : decode cX12_borrowerNow 67 = .ok (.ireturn, 1) := by decide +kernel
theorem dX12_borrowerNow_68 : decode cX12_borrowerNow 68 = .ok (.iload_n 3, 1) := by decide +kernel
theorem dX12_borrowerNow_69 : decode cX12_borrowerNow 69 = .ok (.ireturn, 1) := by decide +kernel
theorem dX12_borrowerNow_70 : decode cX12_borrowerNow 70 = .ok (.iload_n 3, 1) := by decide +kernel
theorem dX12_borrowerNow_71 : decode cX12_borrowerNow 71 = .ok (.iconst (-1), 1) := by decide +kernel
theorem dX12_borrowerNow_72 : decode cX12_borrowerNow 72 = .ok (.if_icmp .ne 7, 3) := by decide +kernel
theorem dX12_borrowerNow_75 : decode cX12_borrowerNow 75 = .ok (.iconst 0, 1) := by decide +kernel
theorem dX12_borrowerNow_76 : decode cX12_borrowerNow 76 = .ok (.goto 9, 3) := by decide +kernel
theorem dX12_borrowerNow_79 : decode cX12_borrowerNow 79 = .ok (.aload_n 0, 1) := by decide +kernel
theorem dX12_borrowerNow_80 : decode cX12_borrowerNow 80 = .ok (.getfield 28, 3) := by decide +kernel
theorem dX12_borrowerNow_83 : decode cX12_borrowerNow 83 = .ok (.iload_n 3, 1) := by decide +kernel
theorem dX12_borrowerNow_84 : decode cX12_borrowerNow 84 = .ok (.iaload, 1) := by decide +kernel
theorem dX12_borrowerNow_85 : decode cX12_borrowerNow 85 = .ok (.ireturn, 1) := by decide +kernel
theorem dX12_about_0 : decode cX12_about 0 = .ok (.aload_n 0, 1) := by decide +kernel
theorem dX12_about_1 : decode cX12_about 1 = .ok (.iload_n 1, 1) := by decide +kernel
theorem dX12_about_2 : decode cX12_about 2 = .ok (.invokevirtual 132, 3) := by decide +kernel
theorem dX12_about_5 : decode cX12_about 5 = .ok (.ifCond .ne 8, 3) := by decide +kernel
theorem dX12_about_8 : decode cX12_about 8 = .ok (.bipush (-101), 2) := by decide +kernel
theorem dX12_about_10 : decode cX12_about 10 = .ok (.goto 23, 3) := by decide +kernel
theorem dX12_about_13 : decode cX12_about 13 = .ok (.iload_n 2, 1) := by decide +kernel
theorem dX12_about_14 : decode cX12_about 14 = .ok (.iconst 0, 1) := by decide +kernel
theorem dX12_about_15 : decode cX12_about 15 = .ok (.iconst 5, 1) := by decide +kernel
theorem dX12_about_16 : decode cX12_about 16 = .ok (.invokestatic 77, 3) := by decide +kernel
theorem dX12_about_19 : decode cX12_about 19 = .ok (.ifCond .eq 12, 3) := by decide +kernel
theorem dX12_about_22 : decode cX12_about 22 = .ok (.aload_n 0, 1) := by decide +kernel
theorem dX12_about_23 : decode cX12_about 23 = .ok (.iload_n 1, 1) := by decide +kernel
theorem dX12_about_24 : decode cX12_about 24 = .ok (.iload_n 2, 1) := by decide +kernel
theorem dX12_about_25 : decode cX12_about 25 = .ok (.invokevirtual 135, 3) := by decide +kernel
theorem dX12_about_28 : decode cX12_about 28 = .ok (.goto 5, 3) := by decide +kernel
theorem dX12_about_31 : decode cX12_about 31 = .ok (.bipush (-102), 2) := by decide +kernel
theorem dX12_about_33 : decode cX12_about 33 = .ok (.ireturn, 1) := by decide +kernel
theorem dX12_as_0 : decode cX12_as 0 = .ok (.aload_n 0, 1) := by decide +kernel
theorem dX12_as_1 : decode cX12_as 1 = .ok (.iload_n 1, 1) := by decide +kernel
theorem dX12_as_2 : decode cX12_as 2 = .ok (.invokevirtual 132, 3) := by decide +kernel
theorem dX12_as_5 : decode cX12_as 5 = .ok (.ifCond .ne 6, 3) := by decide +kernel
theorem dX12_as_8 : decode cX12_as 8 = .ok (.bipush (-101), 2) := by decide +kernel
theorem dX12_as_10 : decode cX12_as 10 = .ok (.ireturn, 1) := by decide +kernel
theorem dX12_as_11 : decode cX12_as 11 = .ok (.iload_n 2, 1) := by decide +kernel
theorem dX12_as_12 : decode cX12_as 12 = .ok (.iconst 0, 1) := by decide +kernel
theorem dX12_as_13 : decode cX12_as 13 = .ok (.iconst 4, 1) := by decide +kernel
theorem dX12_as_14 : decode cX12_as 14 = .ok (.invokestatic 77, 3) := by decide +kernel
theorem dX12_as_17 : decode cX12_as 17 = .ok (.ifCond .ne 6, 3) := by decide +kernel
theorem dX12_as_20 : decode cX12_as 20 = .ok (.bipush (-102), 2) := by decide +kernel
theorem dX12_as_22 : decode cX12_as 22 = .ok (.ireturn, 1) := by decide +kernel
theorem dX12_as_23 : decode cX12_as 23 = .ok (.aload_n 0, 1) := by decide +kernel
theorem dX12_as_24 : decode cX12_as 24 = .ok (.getfield 7, 3) := by decide +kernel
theorem dX12_as_27 : decode cX12_as 27 = .ok (.iload_n 1, 1) := by decide +kernel
theorem dX12_as_28 : decode cX12_as 28 = .ok (.iaload, 1) := by decide +kernel
theorem dX12_as_29 : decode cX12_as 29 = .ok (.istore_n 3, 1) := by decide +kernel
theorem dX12_as_30 : decode cX12_as 30 = .ok (.iload_n 2, 1) := by decide +kernel
theorem dX12_as_31 : decode cX12_as 31 = .ok (.ifCond .eq 18, 3) := by decide +kernel
theorem dX12_as_34 : decode cX12_as 34 = .ok (.iload_n 3, 1) := by decide +kernel
theorem dX12_as_35 : decode cX12_as 35 = .ok (.iload_n 2, 1) := by decide +kernel
theorem dX12_as_36 : decode cX12_as 36 = .ok (.if_icmp .eq 13, 3) := by decide +kernel
theorem dX12_as_39 : decode cX12_as 39 = .ok (.iload_n 2, 1) := by decide +kernel
theorem dX12_as_40 : decode cX12_as 40 = .ok (.iconst 1, 1) := by decide +kernel
theorem dX12_as_41 : decode cX12_as 41 = .ok (.if_icmp .ne 12, 3) := by decide +kernel
theorem dX12_as_44 : decode cX12_as 44 = .ok (.iload_n 3, 1) := by decide +kernel
theorem dX12_as_45 : decode cX12_as 45 = .ok (.iconst 4, 1) := by decide +kernel
theorem dX12_as_46 : decode cX12_as 46 = .ok (.if_icmp .ne 7, 3) := by decide +kernel
theorem dX12_as_49 : decode cX12_as 49 = .ok (.iload_n 1, 1) := by decide +kernel
theorem dX12_as_50 : decode cX12_as 50 = .ok (.goto 4, 3) := by decide +kernel
theorem dX12_as_53 : decode cX12_as 53 = .ok (.iconst (-1), 1) := by decide +kernel
theorem dX12_as_54 : decode cX12_as 54 = .ok (.ireturn, 1) := by decide +kernel
theorem dX12_thing_0 : decode cX12_thing 0 = .ok (.iload_n 1, 1) := by decide +kernel
theorem dX12_thing_1 : decode cX12_thing 1 = .ok (.invokestatic 138, 3) := by decide +kernel
theorem dX12_thing_4 : decode cX12_thing 4 = .ok (.ifCond .ne 6, 3) := by decide +kernel
theorem dX12_thing_7 : decode cX12_thing 7 = .ok (.bipush (-102), 2) := by decide +kernel
theorem dX12_thing_9 : decode cX12_thing 9 = .ok (.ireturn, 1) := by decide +kernel
theorem dX12_thing_10 : decode cX12_thing 10 = .ok (.aload_n 0, 1) := by decide +kernel
theorem dX12_thing_11 : decode cX12_thing 11 = .ok (.getfield 103, 3) := by decide +kernel
theorem dX12_thing_14 : decode cX12_thing 14 = .ok (.ifCond .ne 6, 3) := by decide +kernel
theorem dX12_thing_17 : decode cX12_thing 17 = .ok (.bipush (-103), 2) := by decide +kernel
theorem dX12_thing_19 : decode cX12_thing 19 = .ok (.ireturn, 1) := by decide +kernel
theorem dX12_thing_20 : decode cX12_thing 20 = .ok (.aload_n 0, 1) := by decide +kernel
theorem dX12_thing_21 : decode cX12_thing 21 = .ok (.getfield 115, 3) := by decide +kernel
theorem dX12_thing_24 : decode cX12_thing 24 = .ok (.iconst 4, 1) := by decide +kernel
theorem dX12_thing_25 : decode cX12_thing 25 = .ok (.if_icmp .ne 6, 3) := by decide +kernel
theorem dX12_thing_28 : decode cX12_thing 28 = .ok (.bipush (-104), 2) := by decide +kernel
theorem dX12_thing_30 : decode cX12_thing 30 = .ok (.ireturn, 1) := by decide +kernel
theorem dX12_thing_31 : decode cX12_thing 31 = .ok (.aload_n 0, 1) := by decide +kernel
theorem dX12_thing_32 : decode cX12_thing 32 = .ok (.getfield 22, 3) := by decide +kernel
theorem dX12_thing_35 : decode cX12_thing 35 = .ok (.aload_n 0, 1) := by decide +kernel
theorem dX12_thing_36 : decode cX12_thing 36 = .ok (.getfield 115, 3) := by decide +kernel
theorem dX12_thing_39 : decode cX12_thing 39 = .ok (.iload_n 1, 1) := by decide +kernel
theorem dX12_thing_40 : decode cX12_thing 40 = .ok (.iastore, 1) := by decide +kernel
theorem dX12_thing_41 : decode cX12_thing 41 = .ok (.aload_n 0, 1) := by decide +kernel
theorem dX12_thing_42 : decode cX12_thing 42 = .ok (.getfield 25, 3) := by decide +kernel
theorem dX12_thing_45 : decode cX12_thing 45 = .ok (.aload_n 0, 1) := by decide +kernel
theorem dX12_thing_46 : decode cX12_thing 46 = .ok (.getfield 115, 3) := by decide +kernel
theorem dX12_thing_49 : decode cX12_thing 49 = .ok (.iconst (-1), 1) := by decide +kernel
theorem dX12_thing_50 : decode cX12_thing 50 = .ok (.iastore, 1) := by decide +kernel
theorem dX12_thing_51 : decode cX12_thing 51 = .ok (.aload_n 0, 1) := by decide +kernel
theorem dX12_thing_52 : decode cX12_thing 52 = .ok (.getfield 28, 3) := by decide +kernel
theorem dX12_thing_55 : decode cX12_thing 55 = .ok (.aload_n 0, 1) := by decide +kernel
theorem dX12_thing_56 : decode cX12_thing 56 = .ok (.getfield 115, 3) := by decide +kernel
theorem dX12_thing_59 : decode cX12_thing 59 = .ok (.iconst 0, 1) := by decide +kernel
theorem dX12_thing_60 : decode cX12_thing 60 = .ok (.iastore, 1) := by decide +kernel
theorem dX12_thing_61 : decode cX12_thing 61 = .ok (.aload_n 0, 1) := by decide +kernel
theorem dX12_thing_62 : decode cX12_thing 62 = .ok (.getfield 31, 3) := by decide +kernel
theorem dX12_thing_65 : decode cX12_thing 65 = .ok (.aload_n 0, 1) := by decide +kernel
theorem dX12_thing_66 : decode cX12_thing 66 = .ok (.getfield 115, 3) := by decide +kernel
theorem dX12_thing_69 : decode cX12_thing 69 = .ok (.iconst 0, 1) := by decide +kernel
theorem dX12_thing_70 : decode cX12_thing 70 = .ok (.iastore, 1) := by decide +kernel
theorem dX12_thing_71 : decode cX12_thing 71 = .ok (.aload_n 0, 1) := by decide +kernel
theorem dX12_thing_72 : decode cX12_thing 72 = .ok (.dup, 1) := by decide +kernel
theorem dX12_thing_73 : decode cX12_thing 73 = .ok (.getfield 115, 3) := by decide +kernel
theorem dX12_thing_76 : decode cX12_thing 76 = .ok (.iconst 1, 1) := by decide +kernel
theorem dX12_thing_77 : decode cX12_thing 77 = .ok (.iadd, 1) := by decide +kernel
theorem dX12_thing_78 : decode cX12_thing 78 = .ok (.putfield 115, 3) := by decide +kernel
theorem dX12_thing_81 : decode cX12_thing 81 = .ok (.aload_n 0, 1) := by decide +kernel
theorem dX12_thing_82 : decode cX12_thing 82 = .ok (.getfield 115, 3) := by decide +kernel
theorem dX12_thing_85 : decode cX12_thing 85 = .ok (.iconst 1, 1) := by decide +kernel
theorem dX12_thing_86 : decode cX12_thing 86 = .ok (.isub, 1) := by decide +kernel
theorem dX12_thing_87 : decode cX12_thing 87 = .ok (.ireturn, 1) := by decide +kernel
theorem dX12_homeState_0 : decode cX12_homeState 0 = .ok (.aload_n 0, 1) := by decide +kernel
theorem dX12_homeState_1 : decode cX12_homeState 1 = .ok (.getfield 25, 3) := by decide +kernel
theorem dX12_homeState_4 : decode cX12_homeState 4 = .ok (.iload_n 1, 1) := by decide +kernel
theorem dX12_homeState_5 : decode cX12_homeState 5 = .ok (.iaload, 1) := by decide +kernel
theorem dX12_homeState_6 : decode cX12_homeState 6 = .ok (.iconst (-1), 1) := by decide +kernel
theorem dX12_homeState_7 : decode cX12_homeState 7 = .ok (.if_icmp .ne 12, 3) := by decide +kernel
theorem dX12_homeState_10 : decode cX12_homeState 10 = .ok (.aload_n 0, 1) := by decide +kernel
theorem dX12_homeState_11 : decode cX12_homeState 11 = .ok (.getfield 22, 3) := by decide +kernel
theorem dX12_homeState_14 : decode cX12_homeState 14 = .ok (.iload_n 1, 1) := by decide +kernel
theorem dX12_homeState_15 : decode cX12_homeState 15 = .ok (.iaload, 1) := by decide +kernel
theorem dX12_homeState_16 : decode cX12_homeState 16 = .ok (.goto 19, 3) := by decide +kernel
theorem dX12_homeState_19 : decode cX12_homeState 19 = .ok (.aload_n 0, 1) := by decide +kernel
theorem dX12_homeState_20 : decode cX12_homeState 20 = .ok (.aload_n 0, 1) := by decide +kernel
theorem dX12_homeState_21 : decode cX12_homeState 21 = .ok (.getfield 25, 3) := by decide +kernel
theorem dX12_homeState_24 : decode cX12_homeState 24 = .ok (.iload_n 1, 1) := by decide +kernel
theorem dX12_homeState_25 : decode cX12_homeState 25 = .ok (.iaload, 1) := by decide +kernel
theorem dX12_homeState_26 : decode cX12_homeState 26 = .ok (.aload_n 0, 1) := by decide +kernel
theorem dX12_homeState_27 : decode cX12_homeState 27 = .ok (.getfield 22, 3) := by decide +kernel
theorem dX12_homeState_30 : decode cX12_homeState 30 = .ok (.iload_n 1, 1) := by decide +kernel
theorem dX12_homeState_31 : decode cX12_homeState 31 = .ok (.iaload, 1) := by decide +kernel
theorem dX12_homeState_32 : decode cX12_homeState 32 = .ok (.invokevirtual 141, 3) := by decide +kernel
theorem dX12_homeState_35 : decode cX12_homeState 35 = .ok (.ireturn, 1) := by decide +kernel
theorem dX12_thingNow_0 : decode cX12_thingNow 0 = .ok (.iload_n 2, 1) := by decide +kernel
theorem dX12_thingNow_1 : decode cX12_thingNow 1 = .ok (.tableswitch 58 3 6 #[31, 38, 45, 52], 31) := by decide +kernel
theorem dX12_thingNow_32 : decode cX12_thingNow 32 = .ok (.aload_n 0, 1) := by decide +kernel
theorem dX12_thingNow_33 : decode cX12_thingNow 33 = .ok (.getfield 22, 3) := by decide +kernel
theorem dX12_thingNow_36 : decode cX12_thingNow 36 = .ok (.iload_n 1, 1) := by decide +kernel
theorem dX12_thingNow_37 : decode cX12_thingNow 37 = .ok (.iaload, 1) := by decide +kernel
theorem dX12_thingNow_38 : decode cX12_thingNow 38 = .ok (.ireturn, 1) := by decide +kernel
theorem dX12_thingNow_39 : decode cX12_thingNow 39 = .ok (.aload_n 0, 1) := by decide +kernel
theorem dX12_thingNow_40 : decode cX12_thingNow 40 = .ok (.getfield 25, 3) := by decide +kernel
theorem dX12_thingNow_43 : decode cX12_thingNow 43 = .ok (.iload_n 1, 1) := by decide +kernel
theorem dX12_thingNow_44 : decode cX12_thingNow 44 = .ok (.iaload, 1) := by decide +kernel
theorem dX12_thingNow_45 : decode cX12_thingNow 45 = .ok (.ireturn, 1) := by decide +kernel
theorem dX12_thingNow_46 : decode cX12_thingNow 46 = .ok (.aload_n 0, 1) := by decide +kernel
theorem dX12_thingNow_47 : decode cX12_thingNow 47 = .ok (.getfield 31, 3) := by decide +kernel
theorem dX12_thingNow_50 : decode cX12_thingNow 50 = .ok (.iload_n 1, 1) := by decide +kernel
theorem dX12_thingNow_51 : decode cX12_thingNow 51 = .ok (.iaload, 1) := by decide +kernel
theorem dX12_thingNow_52 : decode cX12_thingNow 52 = .ok (.ireturn, 1) := by decide +kernel
theorem dX12_thingNow_53 : decode cX12_thingNow 53 = .ok (.aload_n 0, 1) := by decide +kernel
theorem dX12_thingNow_54 : decode cX12_thingNow 54 = .ok (.iload_n 1, 1) := by decide +kernel
theorem dX12_thingNow_55 : decode cX12_thingNow 55 = .ok (.invokevirtual 144, 3) := by decide +kernel
theorem dX12_thingNow_58 : decode cX12_thingNow 58 = .ok (.ireturn, 1) := by decide +kernel
theorem dX12_thingNow_59 : decode cX12_thingNow 59 = .ok (.aload_n 0, 1) := by decide +kernel
theorem dX12_thingNow_60 : decode cX12_thingNow 60 = .ok (.getfield 22, 3) := by decide +kernel
theorem dX12_thingNow_63 : decode cX12_thingNow 63 = .ok (.iload_n 1, 1) := by decide +kernel
theorem dX12_thingNow_64 : decode cX12_thingNow 64 = .ok (.iaload, 1) := by decide +kernel
theorem dX12_thingNow_65 : decode cX12_thingNow 65 = .ok (.iload_n 2, 1) := by decide +kernel
theorem dX12_thingNow_66 : decode cX12_thingNow 66 = .ok (.invokestatic 121, 3) := by decide +kernel
theorem dX12_thingNow_69 : decode cX12_thingNow 69 = .ok (.ireturn, 1) := by decide +kernel
theorem dX12_thingOf_0 : decode cX12_thingOf 0 = .ok (.aload_n 0, 1) := by decide +kernel
theorem dX12_thingOf_1 : decode cX12_thingOf 1 = .ok (.iload_n 1, 1) := by decide +kernel
theorem dX12_thingOf_2 : decode cX12_thingOf 2 = .ok (.invokevirtual 147, 3) := by decide +kernel
theorem dX12_thingOf_5 : decode cX12_thingOf 5 = .ok (.ifCond .ne 8, 3) := by decide +kernel
theorem dX12_thingOf_8 : decode cX12_thingOf 8 = .ok (.bipush (-101), 2) := by decide +kernel
theorem dX12_thingOf_10 : decode cX12_thingOf 10 = .ok (.goto 24, 3) := by decide +kernel
theorem dX12_thingOf_13 : decode cX12_thingOf 13 = .ok (.iload_n 2, 1) := by decide +kernel
theorem dX12_thingOf_14 : decode cX12_thingOf 14 = .ok (.iconst 0, 1) := by decide +kernel
theorem dX12_thingOf_15 : decode cX12_thingOf 15 = .ok (.bipush 6, 2) := by decide +kernel
theorem dX12_thingOf_17 : decode cX12_thingOf 17 = .ok (.invokestatic 77, 3) := by decide +kernel
theorem dX12_thingOf_20 : decode cX12_thingOf 20 = .ok (.ifCond .eq 12, 3) := by decide +kernel
theorem dX12_thingOf_23 : decode cX12_thingOf 23 = .ok (.aload_n 0, 1) := by decide +kernel
theorem dX12_thingOf_24 : decode cX12_thingOf 24 = .ok (.iload_n 1, 1) := by decide +kernel
theorem dX12_thingOf_25 : decode cX12_thingOf 25 = .ok (.iload_n 2, 1) := by decide +kernel
theorem dX12_thingOf_26 : decode cX12_thingOf 26 = .ok (.invokevirtual 150, 3) := by decide +kernel
theorem dX12_thingOf_29 : decode cX12_thingOf 29 = .ok (.goto 5, 3) := by decide +kernel
theorem dX12_thingOf_32 : decode cX12_thingOf 32 = .ok (.bipush (-102), 2) := by decide +kernel
theorem dX12_thingOf_34 : decode cX12_thingOf 34 = .ok (.ireturn, 1) := by decide +kernel
theorem dX12_lend_0 : decode cX12_lend 0 = .ok (.aload_n 0, 1) := by decide +kernel
theorem dX12_lend_1 : decode cX12_lend 1 = .ok (.iload_n 1, 1) := by decide +kernel
theorem dX12_lend_2 : decode cX12_lend 2 = .ok (.invokevirtual 147, 3) := by decide +kernel
theorem dX12_lend_5 : decode cX12_lend 5 = .ok (.ifCond .eq 11, 3) := by decide +kernel
theorem dX12_lend_8 : decode cX12_lend 8 = .ok (.aload_n 0, 1) := by decide +kernel
theorem dX12_lend_9 : decode cX12_lend 9 = .ok (.iload_n 2, 1) := by decide +kernel
theorem dX12_lend_10 : decode cX12_lend 10 = .ok (.invokevirtual 132, 3) := by decide +kernel
theorem dX12_lend_13 : decode cX12_lend 13 = .ok (.ifCond .ne 6, 3) := by decide +kernel
theorem dX12_lend_16 : decode cX12_lend 16 = .ok (.bipush (-101), 2) := by decide +kernel
theorem dX12_lend_18 : decode cX12_lend 18 = .ok (.ireturn, 1) := by decide +kernel
theorem dX12_lend_19 : decode cX12_lend 19 = .ok (.aload_n 0, 1) := by decide +kernel
theorem dX12_lend_20 : decode cX12_lend 20 = .ok (.getfield 25, 3) := by decide +kernel
theorem dX12_lend_23 : decode cX12_lend 23 = .ok (.iload_n 1, 1) := by decide +kernel
theorem dX12_lend_24 : decode cX12_lend 24 = .ok (.iaload, 1) := by decide +kernel
theorem dX12_lend_25 : decode cX12_lend 25 = .ok (.iconst (-1), 1) := by decide +kernel
theorem dX12_lend_26 : decode cX12_lend 26 = .ok (.if_icmp .ne 12, 3) := by decide +kernel
theorem dX12_lend_29 : decode cX12_lend 29 = .ok (.aload_n 0, 1) := by decide +kernel
theorem dX12_lend_30 : decode cX12_lend 30 = .ok (.iload_n 2, 1) := by decide +kernel
theorem dX12_lend_31 : decode cX12_lend 31 = .ok (.invokevirtual 129, 3) := by decide +kernel
theorem dX12_lend_34 : decode cX12_lend 34 = .ok (.iconst (-1), 1) := by decide +kernel
theorem dX12_lend_35 : decode cX12_lend 35 = .ok (.if_icmp .eq 6, 3) := by decide +kernel
theorem dX12_lend_38 : decode cX12_lend 38 = .ok (.bipush (-103), 2) := by decide +kernel
theorem dX12_lend_40 : decode cX12_lend 40 = .ok (.ireturn, 1) := by decide +kernel
theorem dX12_lend_41 : decode cX12_lend 41 = .ok (.aload_n 0, 1) := by decide +kernel
theorem dX12_lend_42 : decode cX12_lend 42 = .ok (.getfield 25, 3) := by decide +kernel
theorem dX12_lend_45 : decode cX12_lend 45 = .ok (.iload_n 1, 1) := by decide +kernel
theorem dX12_lend_46 : decode cX12_lend 46 = .ok (.iload_n 2, 1) := by decide +kernel
theorem dX12_lend_47 : decode cX12_lend 47 = .ok (.iastore, 1) := by decide +kernel
theorem dX12_lend_48 : decode cX12_lend 48 = .ok (.aload_n 0, 1) := by decide +kernel
theorem dX12_lend_49 : decode cX12_lend 49 = .ok (.getfield 28, 3) := by decide +kernel
theorem dX12_lend_52 : decode cX12_lend 52 = .ok (.iload_n 1, 1) := by decide +kernel
theorem dX12_lend_53 : decode cX12_lend 53 = .ok (.aload_n 0, 1) := by decide +kernel
theorem dX12_lend_54 : decode cX12_lend 54 = .ok (.getfield 19, 3) := by decide +kernel
theorem dX12_lend_57 : decode cX12_lend 57 = .ok (.iload_n 2, 1) := by decide +kernel
theorem dX12_lend_58 : decode cX12_lend 58 = .ok (.iaload, 1) := by decide +kernel
theorem dX12_lend_59 : decode cX12_lend 59 = .ok (.iastore, 1) := by decide +kernel
theorem dX12_lend_60 : decode cX12_lend 60 = .ok (.aload_n 0, 1) := by decide +kernel
theorem dX12_lend_61 : decode cX12_lend 61 = .ok (.getfield 19, 3) := by decide +kernel
theorem dX12_lend_64 : decode cX12_lend 64 = .ok (.iload_n 2, 1) := by decide +kernel
theorem dX12_lend_65 : decode cX12_lend 65 = .ok (.iaload, 1) := by decide +kernel
theorem dX12_lend_66 : decode cX12_lend 66 = .ok (.ireturn, 1) := by decide +kernel
theorem dX12_day_0 : decode cX12_day 0 = .ok (.aload_n 0, 1) := by decide +kernel
theorem dX12_day_1 : decode cX12_day 1 = .ok (.getfield 103, 3) := by decide +kernel
theorem dX12_day_4 : decode cX12_day 4 = .ok (.ifCond .ne 6, 3) := by decide +kernel
theorem dX12_day_7 : decode cX12_day 7 = .ok (.bipush (-103), 2) := by decide +kernel
theorem dX12_day_9 : decode cX12_day 9 = .ok (.ireturn, 1) := by decide +kernel
theorem dX12_day_10 : decode cX12_day 10 = .ok (.iconst 0, 1) := by decide +kernel
theorem dX12_day_11 : decode cX12_day 11 = .ok (.istore_n 1, 1) := by decide +kernel
theorem dX12_day_12 : decode cX12_day 12 = .ok (.iconst 0, 1) := by decide +kernel
theorem dX12_day_13 : decode cX12_day 13 = .ok (.istore_n 2, 1) := by decide +kernel
theorem dX12_day_14 : decode cX12_day 14 = .ok (.iload_n 2, 1) := by decide +kernel
theorem dX12_day_15 : decode cX12_day 15 = .ok (.aload_n 0, 1) := by decide +kernel
theorem dX12_day_16 : decode cX12_day 16 = .ok (.getfield 115, 3) := by decide +kernel
theorem dX12_day_19 : decode cX12_day 19 = .ok (.if_icmp .ge 83, 3) := by decide +kernel
theorem dX12_day_22 : decode cX12_day 22 = .ok (.aload_n 0, 1) := by decide +kernel
theorem dX12_day_23 : decode cX12_day 23 = .ok (.getfield 28, 3) := by decide +kernel
theorem dX12_day_26 : decode cX12_day 26 = .ok (.iload_n 2, 1) := by decide +kernel
theorem dX12_day_27 : decode cX12_day 27 = .ok (.dup2, 1) := by decide +kernel
theorem dX12_day_28 : decode cX12_day 28 = .ok (.iaload, 1) := by decide +kernel
theorem dX12_day_29 : decode cX12_day 29 = .ok (.aload_n 0, 1) := by decide +kernel
theorem dX12_day_30 : decode cX12_day 30 = .ok (.getfield 25, 3) := by decide +kernel
theorem dX12_day_33 : decode cX12_day 33 = .ok (.iload_n 2, 1) := by decide +kernel
theorem dX12_day_34 : decode cX12_day 34 = .ok (.iaload, 1) := by decide +kernel
theorem dX12_day_35 : decode cX12_day 35 = .ok (.iconst (-1), 1) := by decide +kernel
theorem dX12_day_36 : decode cX12_day 36 = .ok (.if_icmp .ne 7, 3) := by decide +kernel
theorem dX12_day_39 : decode cX12_day 39 = .ok (.iconst 0, 1) := by decide +kernel
theorem dX12_day_40 : decode cX12_day 40 = .ok (.goto 4, 3) := by decide +kernel
theorem dX12_day_43 : decode cX12_day 43 = .ok (.iconst 1, 1) := by decide +kernel
theorem dX12_day_44 : decode cX12_day 44 = .ok (.isub, 1) := by decide +kernel
theorem dX12_day_45 : decode cX12_day 45 = .ok (.iastore, 1) := by decide +kernel
theorem dX12_day_46 : decode cX12_day 46 = .ok (.aload_n 0, 1) := by decide +kernel
theorem dX12_day_47 : decode cX12_day 47 = .ok (.getfield 25, 3) := by decide +kernel
theorem dX12_day_50 : decode cX12_day 50 = .ok (.iload_n 2, 1) := by decide +kernel
theorem dX12_day_51 : decode cX12_day 51 = .ok (.iaload, 1) := by decide +kernel
theorem dX12_day_52 : decode cX12_day 52 = .ok (.iconst (-1), 1) := by decide +kernel
theorem dX12_day_53 : decode cX12_day 53 = .ok (.if_icmp .eq 43, 3) := by decide +kernel
theorem dX12_day_56 : decode cX12_day 56 = .ok (.aload_n 0, 1) := by decide +kernel
theorem dX12_day_57 : decode cX12_day 57 = .ok (.getfield 28, 3) := by decide +kernel
theorem dX12_day_60 : decode cX12_day 60 = .ok (.iload_n 2, 1) := by decide +kernel
theorem dX12_day_61 : decode cX12_day 61 = .ok (.iaload, 1) := by decide +kernel
theorem dX12_day_62 : decode cX12_day 62 = .ok (.ifCond .ne 34, 3) := by decide +kernel
theorem dX12_day_65 : decode cX12_day 65 = .ok (.aload_n 0, 1) := by decide +kernel
theorem dX12_day_66 : decode cX12_day 66 = .ok (.getfield 22, 3) := by decide +kernel
theorem dX12_day_69 : decode cX12_day 69 = .ok (.iload_n 2, 1) := by decide +kernel
theorem dX12_day_70 : decode cX12_day 70 = .ok (.aload_n 0, 1) := by decide +kernel
theorem dX12_day_71 : decode cX12_day 71 = .ok (.iload_n 2, 1) := by decide +kernel
theorem dX12_day_72 : decode cX12_day 72 = .ok (.invokevirtual 144, 3) := by decide +kernel
theorem dX12_day_75 : decode cX12_day 75 = .ok (.iastore, 1) := by decide +kernel
theorem dX12_day_76 : decode cX12_day 76 = .ok (.aload_n 0, 1) := by decide +kernel
theorem dX12_day_77 : decode cX12_day 77 = .ok (.getfield 25, 3) := by decide +kernel
theorem dX12_day_80 : decode cX12_day 80 = .ok (.iload_n 2, 1) := by decide +kernel
theorem dX12_day_81 : decode cX12_day 81 = .ok (.iconst (-1), 1) := by decide +kernel
theorem dX12_day_82 : decode cX12_day 82 = .ok (.iastore, 1) := by decide +kernel
theorem dX12_day_83 : decode cX12_day 83 = .ok (.aload_n 0, 1) := by decide +kernel
theorem dX12_day_84 : decode cX12_day 84 = .ok (.getfield 31, 3) := by decide +kernel
theorem dX12_day_87 : decode cX12_day 87 = .ok (.iload_n 2, 1) := by decide +kernel
theorem dX12_day_88 : decode cX12_day 88 = .ok (.dup2, 1) := by decide +kernel
theorem dX12_day_89 : decode cX12_day 89 = .ok (.iaload, 1) := by decide +kernel
theorem dX12_day_90 : decode cX12_day 90 = .ok (.iconst 1, 1) := by decide +kernel
theorem dX12_day_91 : decode cX12_day 91 = .ok (.iadd, 1) := by decide +kernel
theorem dX12_day_92 : decode cX12_day 92 = .ok (.iastore, 1) := by decide +kernel
theorem dX12_day_93 : decode cX12_day 93 = .ok (.iinc 1 1, 3) := by decide +kernel
theorem dX12_day_96 : decode cX12_day 96 = .ok (.iinc 2 1, 3) := by decide +kernel
theorem dX12_day_99 : decode cX12_day 99 = .ok (.goto (-85), 3) := by decide +kernel
theorem dX12_day_102 : decode cX12_day 102 = .ok (.aload_n 0, 1) := by decide +kernel
theorem dX12_day_103 : decode cX12_day 103 = .ok (.dup, 1) := by decide +kernel
theorem dX12_day_104 : decode cX12_day 104 = .ok (.getfield 118, 3) := by decide +kernel
theorem dX12_day_107 : decode cX12_day 107 = .ok (.iconst 1, 1) := by decide +kernel
theorem dX12_day_108 : decode cX12_day 108 = .ok (.iadd, 1) := by decide +kernel
theorem dX12_day_109 : decode cX12_day 109 = .ok (.putfield 118, 3) := by decide +kernel
theorem dX12_day_112 : decode cX12_day 112 = .ok (.iload_n 1, 1) := by decide +kernel
theorem dX12_day_113 : decode cX12_day 113 = .ok (.ireturn, 1) := by decide +kernel
theorem dX12_by_0 : decode cX12_by 0 = .ok (.aload_n 0, 1) := by decide +kernel
theorem dX12_by_1 : decode cX12_by 1 = .ok (.iload_n 1, 1) := by decide +kernel
theorem dX12_by_2 : decode cX12_by 2 = .ok (.invokevirtual 132, 3) := by decide +kernel
theorem dX12_by_5 : decode cX12_by 5 = .ok (.ifCond .ne 6, 3) := by decide +kernel
theorem dX12_by_8 : decode cX12_by 8 = .ok (.bipush (-101), 2) := by decide +kernel
theorem dX12_by_10 : decode cX12_by 10 = .ok (.ireturn, 1) := by decide +kernel
theorem dX12_by_11 : decode cX12_by 11 = .ok (.iload_n 2, 1) := by decide +kernel
theorem dX12_by_12 : decode cX12_by 12 = .ok (.invokestatic 138, 3) := by decide +kernel
theorem dX12_by_15 : decode cX12_by 15 = .ok (.ifCond .eq 12, 3) := by decide +kernel
theorem dX12_by_18 : decode cX12_by 18 = .ok (.aload_n 0, 1) := by decide +kernel
theorem dX12_by_19 : decode cX12_by 19 = .ok (.iload_n 1, 1) := by decide +kernel
theorem dX12_by_20 : decode cX12_by 20 = .ok (.iload_n 2, 1) := by decide +kernel
theorem dX12_by_21 : decode cX12_by 21 = .ok (.invokevirtual 141, 3) := by decide +kernel
theorem dX12_by_24 : decode cX12_by 24 = .ok (.goto 5, 3) := by decide +kernel
theorem dX12_by_27 : decode cX12_by 27 = .ok (.bipush (-102), 2) := by decide +kernel
theorem dX12_by_29 : decode cX12_by 29 = .ok (.ireturn, 1) := by decide +kernel
theorem dX12_layWaves_0 : decode cX12_layWaves 0 = .ok (.iconst 0, 1) := by decide +kernel
theorem dX12_layWaves_1 : decode cX12_layWaves 1 = .ok (.istore 4, 2) := by decide +kernel
theorem dX12_layWaves_3 : decode cX12_layWaves 3 = .ok (.iload 4, 2) := by decide +kernel
theorem dX12_layWaves_5 : decode cX12_layWaves 5 = .ok (.sipush 512, 3) := by decide +kernel
theorem dX12_layWaves_8 : decode cX12_layWaves 8 = .ok (.if_icmp .ge 26, 3) := by decide +kernel
theorem dX12_layWaves_11 : decode cX12_layWaves 11 = .ok (.aload_n 0, 1) := by decide +kernel
theorem dX12_layWaves_12 : decode cX12_layWaves 12 = .ok (.getfield 50, 3) := by decide +kernel
theorem dX12_layWaves_15 : decode cX12_layWaves 15 = .ok (.iload 4, 2) := by decide +kernel
theorem dX12_layWaves_17 : decode cX12_layWaves 17 = .ok (.ldc 153, 2) := by decide +kernel
theorem dX12_layWaves_19 : decode cX12_layWaves 19 = .ok (.iastore, 1) := by decide +kernel
theorem dX12_layWaves_20 : decode cX12_layWaves 20 = .ok (.aload_n 0, 1) := by decide +kernel
theorem dX12_layWaves_21 : decode cX12_layWaves 21 = .ok (.getfield 53, 3) := by decide +kernel
theorem dX12_layWaves_24 : decode cX12_layWaves 24 = .ok (.iload 4, 2) := by decide +kernel
theorem dX12_layWaves_26 : decode cX12_layWaves 26 = .ok (.iconst (-1), 1) := by decide +kernel
theorem dX12_layWaves_27 : decode cX12_layWaves 27 = .ok (.iastore, 1) := by decide +kernel
theorem dX12_layWaves_28 : decode cX12_layWaves 28 = .ok (.iinc 4 1, 3) := by decide +kernel
theorem dX12_layWaves_31 : decode cX12_layWaves 31 = .ok (.goto (-28), 3) := by decide +kernel
theorem dX12_layWaves_34 : decode cX12_layWaves 34 = .ok (.aload_n 0, 1) := by decide +kernel
theorem dX12_layWaves_35 : decode cX12_layWaves 35 = .ok (.getfield 50, 3) := by decide +kernel
theorem dX12_layWaves_38 : decode cX12_layWaves 38 = .ok (.iload_n 1, 1) := by decide +kernel
theorem dX12_layWaves_39 : decode cX12_layWaves 39 = .ok (.iconst 0, 1) := by decide +kernel
theorem dX12_layWaves_40 : decode cX12_layWaves 40 = .ok (.iastore, 1) := by decide +kernel
theorem dX12_layWaves_41 : decode cX12_layWaves 41 = .ok (.iconst 1, 1) := by decide +kernel
theorem dX12_layWaves_42 : decode cX12_layWaves 42 = .ok (.istore 4, 2) := by decide +kernel
theorem dX12_layWaves_44 : decode cX12_layWaves 44 = .ok (.iconst 0, 1) := by decide +kernel
theorem dX12_layWaves_45 : decode cX12_layWaves 45 = .ok (.istore 5, 2) := by decide +kernel
theorem dX12_layWaves_47 : decode cX12_layWaves 47 = .ok (.iload 4, 2) := by decide +kernel
theorem dX12_layWaves_49 : decode cX12_layWaves 49 = .ok (.ifCond .eq 100, 3) := by decide +kernel
theorem dX12_layWaves_52 : decode cX12_layWaves 52 = .ok (.iconst 0, 1) := by decide +kernel
theorem dX12_layWaves_53 : decode cX12_layWaves 53 = .ok (.istore 4, 2) := by decide +kernel
theorem dX12_layWaves_55 : decode cX12_layWaves 55 = .ok (.iconst 0, 1) := by decide +kernel
theorem dX12_layWaves_56 : decode cX12_layWaves 56 = .ok (.istore 6, 2) := by decide +kernel
theorem dX12_layWaves_58 : decode cX12_layWaves 58 = .ok (.iload 6, 2) := by decide +kernel
theorem dX12_layWaves_60 : decode cX12_layWaves 60 = .ok (.sipush 512, 3) := by decide +kernel
theorem dX12_layWaves_63 : decode cX12_layWaves 63 = .ok (.if_icmp .ge 80, 3) := by decide +kernel
theorem dX12_layWaves_66 : decode cX12_layWaves 66 = .ok (.iload 4, 2) := by decide +kernel
theorem dX12_layWaves_68 : decode cX12_layWaves 68 = .ok (.ifCond .ne 27, 3) := by decide +kernel
theorem dX12_layWaves_71 : decode cX12_layWaves 71 = .ok (.aload_n 0, 1) := by decide +kernel
theorem dX12_layWaves_72 : decode cX12_layWaves 72 = .ok (.getfield 50, 3) := by decide +kernel
theorem dX12_layWaves_75 : decode cX12_layWaves 75 = .ok (.iload 6, 2) := by decide +kernel
theorem dX12_layWaves_77 : decode cX12_layWaves 77 = .ok (.iaload, 1) := by decide +kernel
theorem dX12_layWaves_78 : decode cX12_layWaves 78 = .ok (.ldc 153, 2) := by decide +kernel
theorem dX12_layWaves_80 : decode cX12_layWaves 80 = .ok (.if_icmp .eq 19, 3) := by decide +kernel
theorem dX12_layWaves_83 : decode cX12_layWaves 83 = .ok (.aload_n 0, 1) := by decide +kernel
theorem dX12_layWaves_84 : decode cX12_layWaves 84 = .ok (.getfield 50, 3) := by decide +kernel
theorem dX12_layWaves_87 : decode cX12_layWaves 87 = .ok (.iload 6, 2) := by decide +kernel
theorem dX12_layWaves_89 : decode cX12_layWaves 89 = .ok (.iaload, 1) := by decide +kernel
theorem dX12_layWaves_90 : decode cX12_layWaves 90 = .ok (.iload 5, 2) := by decide +kernel
theorem dX12_layWaves_92 : decode cX12_layWaves 92 = .ok (.if_icmp .le 7, 3) := by decide +kernel
theorem dX12_layWaves_95 : decode cX12_layWaves 95 = .ok (.iconst 1, 1) := by decide +kernel
theorem dX12_layWaves_96 : decode cX12_layWaves 96 = .ok (.goto 4, 3) := by decide +kernel
theorem dX12_layWaves_99 : decode cX12_layWaves 99 = .ok (.iconst 0, 1) := by decide +kernel
theorem dX12_layWaves_100 : decode cX12_layWaves 100 = .ok (.istore 4, 2) := by decide +kernel
theorem dX12_layWaves_102 : decode cX12_layWaves 102 = .ok (.aload_n 0, 1) := by decide +kernel
theorem dX12_layWaves_103 : decode cX12_layWaves 103 = .ok (.getfield 50, 3) := by decide +kernel
theorem dX12_layWaves_106 : decode cX12_layWaves 106 = .ok (.iload 6, 2) := by decide +kernel
theorem dX12_layWaves_108 : decode cX12_layWaves 108 = .ok (.iaload, 1) := by decide +kernel
theorem dX12_layWaves_109 : decode cX12_layWaves 109 = .ok (.iload 5, 2) := by decide +kernel
theorem dX12_layWaves_111 : decode cX12_layWaves 111 = .ok (.if_icmp .ne 26, 3) := by decide +kernel
theorem dX12_layWaves_114 : decode cX12_layWaves 114 = .ok (.aload_n 0, 1) := by decide +kernel
theorem dX12_layWaves_115 : decode cX12_layWaves 115 = .ok (.iload 6, 2) := by decide +kernel
theorem dX12_layWaves_117 : decode cX12_layWaves 117 = .ok (.iload_n 2, 1) := by decide +kernel
theorem dX12_layWaves_118 : decode cX12_layWaves 118 = .ok (.iload_n 3, 1) := by decide +kernel
theorem dX12_layWaves_119 : decode cX12_layWaves 119 = .ok (.invokevirtual 154, 3) := by decide +kernel
theorem dX12_layWaves_122 : decode cX12_layWaves 122 = .ok (.ifCond .ne 8, 3) := by decide +kernel
theorem dX12_layWaves_125 : decode cX12_layWaves 125 = .ok (.iload 4, 2) := by decide +kernel
theorem dX12_layWaves_127 : decode cX12_layWaves 127 = .ok (.ifCond .eq 7, 3) := by decide +kernel
theorem dX12_layWaves_130 : decode cX12_layWaves 130 = .ok (.iconst 1, 1) := by decide +kernel
theorem dX12_layWaves_131 : decode cX12_layWaves 131 = .ok (.goto 4, 3) := by decide +kernel
theorem dX12_layWaves_134 : decode cX12_layWaves 134 = .ok (.iconst 0, 1) := by decide +kernel
theorem dX12_layWaves_135 : decode cX12_layWaves 135 = .ok (.istore 4, 2) := by decide +kernel
theorem dX12_layWaves_137 : decode cX12_layWaves 137 = .ok (.iinc 6 1, 3) := by decide +kernel
theorem dX12_layWaves_140 : decode cX12_layWaves 140 = .ok (.goto (-82), 3) := by decide +kernel
theorem dX12_layWaves_143 : decode cX12_layWaves 143 = .ok (.iinc 5 1, 3) := by decide +kernel
theorem dX12_layWaves_146 : decode cX12_layWaves 146 = .ok (.goto (-99), 3) := by decide +kernel
theorem dX12_layWaves_149 : decode cX12_layWaves 149 = .ok (.return_, 1) := by decide +kernel
theorem dX12_goFrom_0 : decode cX12_goFrom 0 = .ok (.iconst 0, 1) := by decide +kernel
theorem dX12_goFrom_1 : decode cX12_goFrom 1 = .ok (.istore 4, 2) := by decide +kernel
theorem dX12_goFrom_3 : decode cX12_goFrom 3 = .ok (.iconst 0, 1) := by decide +kernel
theorem dX12_goFrom_4 : decode cX12_goFrom 4 = .ok (.istore 5, 2) := by decide +kernel
theorem dX12_goFrom_6 : decode cX12_goFrom 6 = .ok (.iload 5, 2) := by decide +kernel
theorem dX12_goFrom_8 : decode cX12_goFrom 8 = .ok (.aload_n 0, 1) := by decide +kernel
theorem dX12_goFrom_9 : decode cX12_goFrom 9 = .ok (.getfield 103, 3) := by decide +kernel
theorem dX12_goFrom_12 : decode cX12_goFrom 12 = .ok (.if_icmp .ge 181, 3) := by decide +kernel
theorem dX12_goFrom_15 : decode cX12_goFrom 15 = .ok (.iload_n 3, 1) := by decide +kernel
theorem dX12_goFrom_16 : decode cX12_goFrom 16 = .ok (.iload 5, 2) := by decide +kernel
theorem dX12_goFrom_18 : decode cX12_goFrom 18 = .ok (.ishr, 1) := by decide +kernel
theorem dX12_goFrom_19 : decode cX12_goFrom 19 = .ok (.iconst 1, 1) := by decide +kernel
theorem dX12_goFrom_20 : decode cX12_goFrom 20 = .ok (.iand, 1) := by decide +kernel
theorem dX12_goFrom_21 : decode cX12_goFrom 21 = .ok (.ifCond .ne 166, 3) := by decide +kernel
theorem dX12_goFrom_24 : decode cX12_goFrom 24 = .ok (.aload_n 0, 1) := by decide +kernel
theorem dX12_goFrom_25 : decode cX12_goFrom 25 = .ok (.iload 5, 2) := by decide +kernel
theorem dX12_goFrom_27 : decode cX12_goFrom 27 = .ok (.iload_n 1, 1) := by decide +kernel
theorem dX12_goFrom_28 : decode cX12_goFrom 28 = .ok (.invokevirtual 141, 3) := by decide +kernel
theorem dX12_goFrom_31 : decode cX12_goFrom 31 = .ok (.istore 6, 2) := by decide +kernel
theorem dX12_goFrom_33 : decode cX12_goFrom 33 = .ok (.aload_n 0, 1) := by decide +kernel
theorem dX12_goFrom_34 : decode cX12_goFrom 34 = .ok (.getfield 50, 3) := by decide +kernel
theorem dX12_goFrom_37 : decode cX12_goFrom 37 = .ok (.iload_n 1, 1) := by decide +kernel
theorem dX12_goFrom_38 : decode cX12_goFrom 38 = .ok (.iaload, 1) := by decide +kernel
theorem dX12_goFrom_39 : decode cX12_goFrom 39 = .ok (.iload_n 2, 1) := by decide +kernel
theorem dX12_goFrom_40 : decode cX12_goFrom 40 = .ok (.ifCond .eq 13, 3) := by decide +kernel
theorem dX12_goFrom_43 : decode cX12_goFrom 43 = .ok (.aload_n 0, 1) := by decide +kernel
theorem dX12_goFrom_44 : decode cX12_goFrom 44 = .ok (.getfield 19, 3) := by decide +kernel
theorem dX12_goFrom_47 : decode cX12_goFrom 47 = .ok (.iload 5, 2) := by decide +kernel
theorem dX12_goFrom_49 : decode cX12_goFrom 49 = .ok (.iaload, 1) := by decide +kernel
theorem dX12_goFrom_50 : decode cX12_goFrom 50 = .ok (.goto 4, 3) := by decide +kernel
theorem dX12_goFrom_53 : decode cX12_goFrom 53 = .ok (.iconst 1, 1) := by decide +kernel
theorem dX12_goFrom_54 : decode cX12_goFrom 54 = .ok (.iadd, 1) := by decide +kernel
theorem dX12_goFrom_55 : decode cX12_goFrom 55 = .ok (.istore 7, 2) := by decide +kernel
theorem dX12_goFrom_57 : decode cX12_goFrom 57 = .ok (.aload_n 0, 1) := by decide +kernel
theorem dX12_goFrom_58 : decode cX12_goFrom 58 = .ok (.getfield 50, 3) := by decide +kernel
theorem dX12_goFrom_61 : decode cX12_goFrom 61 = .ok (.iload_n 1, 1) := by decide +kernel
theorem dX12_goFrom_62 : decode cX12_goFrom 62 = .ok (.iaload, 1) := by decide +kernel
theorem dX12_goFrom_63 : decode cX12_goFrom 63 = .ok (.ifCond .ne 8, 3) := by decide +kernel
theorem dX12_goFrom_66 : decode cX12_goFrom 66 = .ok (.iload 5, 2) := by decide +kernel
theorem dX12_goFrom_68 : decode cX12_goFrom 68 = .ok (.goto 9, 3) := by decide +kernel
theorem dX12_goFrom_71 : decode cX12_goFrom 71 = .ok (.aload_n 0, 1) := by decide +kernel
theorem dX12_goFrom_72 : decode cX12_goFrom 72 = .ok (.getfield 53, 3) := by decide +kernel
theorem dX12_goFrom_75 : decode cX12_goFrom 75 = .ok (.iload_n 1, 1) := by decide +kernel
theorem dX12_goFrom_76 : decode cX12_goFrom 76 = .ok (.iaload, 1) := by decide +kernel
theorem dX12_goFrom_77 : decode cX12_goFrom 77 = .ok (.istore 8, 2) := by decide +kernel
theorem dX12_goFrom_79 : decode cX12_goFrom 79 = .ok (.iload 7, 2) := by decide +kernel
theorem dX12_goFrom_81 : decode cX12_goFrom 81 = .ok (.aload_n 0, 1) := by decide +kernel
theorem dX12_goFrom_82 : decode cX12_goFrom 82 = .ok (.getfield 50, 3) := by decide +kernel
theorem dX12_goFrom_85 : decode cX12_goFrom 85 = .ok (.iload 6, 2) := by decide +kernel
theorem dX12_goFrom_87 : decode cX12_goFrom 87 = .ok (.iaload, 1) := by decide +kernel
theorem dX12_goFrom_88 : decode cX12_goFrom 88 = .ok (.if_icmp .lt 27, 3) := by decide +kernel
theorem dX12_goFrom_91 : decode cX12_goFrom 91 = .ok (.iload 7, 2) := by decide +kernel
theorem dX12_goFrom_93 : decode cX12_goFrom 93 = .ok (.aload_n 0, 1) := by decide +kernel
theorem dX12_goFrom_94 : decode cX12_goFrom 94 = .ok (.getfield 50, 3) := by decide +kernel
theorem dX12_goFrom_97 : decode cX12_goFrom 97 = .ok (.iload 6, 2) := by decide +kernel
theorem dX12_goFrom_99 : decode cX12_goFrom 99 = .ok (.iaload, 1) := by decide +kernel
theorem dX12_goFrom_100 : decode cX12_goFrom 100 = .ok (.if_icmp .ne 19, 3) := by decide +kernel
theorem dX12_goFrom_103 : decode cX12_goFrom 103 = .ok (.iload 8, 2) := by decide +kernel
theorem dX12_goFrom_105 : decode cX12_goFrom 105 = .ok (.aload_n 0, 1) := by decide +kernel
theorem dX12_goFrom_106 : decode cX12_goFrom 106 = .ok (.getfield 53, 3) := by decide +kernel
theorem dX12_goFrom_109 : decode cX12_goFrom 109 = .ok (.iload 6, 2) := by decide +kernel
theorem dX12_goFrom_111 : decode cX12_goFrom 111 = .ok (.iaload, 1) := by decide +kernel
theorem dX12_goFrom_112 : decode cX12_goFrom 112 = .ok (.if_icmp .ge 7, 3) := by decide +kernel
theorem dX12_goFrom_115 : decode cX12_goFrom 115 = .ok (.iconst 1, 1) := by decide +kernel
theorem dX12_goFrom_116 : decode cX12_goFrom 116 = .ok (.goto 4, 3) := by decide +kernel
theorem dX12_goFrom_119 : decode cX12_goFrom 119 = .ok (.iconst 0, 1) := by decide +kernel
theorem dX12_goFrom_120 : decode cX12_goFrom 120 = .ok (.istore 9, 2) := by decide +kernel
theorem dX12_goFrom_122 : decode cX12_goFrom 122 = .ok (.aload_n 0, 1) := by decide +kernel
theorem dX12_goFrom_123 : decode cX12_goFrom 123 = .ok (.getfield 50, 3) := by decide +kernel
theorem dX12_goFrom_126 : decode cX12_goFrom 126 = .ok (.iload 6, 2) := by decide +kernel
theorem dX12_goFrom_128 : decode cX12_goFrom 128 = .ok (.iload 9, 2) := by decide +kernel
theorem dX12_goFrom_130 : decode cX12_goFrom 130 = .ok (.ifCond .eq 8, 3) := by decide +kernel
theorem dX12_goFrom_133 : decode cX12_goFrom 133 = .ok (.iload 7, 2) := by decide +kernel
theorem dX12_goFrom_135 : decode cX12_goFrom 135 = .ok (.goto 10, 3) := by decide +kernel
theorem dX12_goFrom_138 : decode cX12_goFrom 138 = .ok (.aload_n 0, 1) := by decide +kernel
theorem dX12_goFrom_139 : decode cX12_goFrom 139 = .ok (.getfield 50, 3) := by decide +kernel
theorem dX12_goFrom_142 : decode cX12_goFrom 142 = .ok (.iload 6, 2) := by decide +kernel
theorem dX12_goFrom_144 : decode cX12_goFrom 144 = .ok (.iaload, 1) := by decide +kernel
theorem dX12_goFrom_145 : decode cX12_goFrom 145 = .ok (.iastore, 1) := by decide +kernel
theorem dX12_goFrom_146 : decode cX12_goFrom 146 = .ok (.aload_n 0, 1) := by decide +kernel
theorem dX12_goFrom_147 : decode cX12_goFrom 147 = .ok (.getfield 53, 3) := by decide +kernel
theorem dX12_goFrom_150 : decode cX12_goFrom 150 = .ok (.iload 6, 2) := by decide +kernel
theorem dX12_goFrom_152 : decode cX12_goFrom 152 = .ok (.iload 9, 2) := by decide +kernel
theorem dX12_goFrom_154 : decode cX12_goFrom 154 = .ok (.ifCond .eq 8, 3) := by decide +kernel
theorem dX12_goFrom_157 : decode cX12_goFrom 157 = .ok (.iload 8, 2) := by decide +kernel
theorem dX12_goFrom_159 : decode cX12_goFrom 159 = .ok (.goto 10, 3) := by decide +kernel
theorem dX12_goFrom_162 : decode cX12_goFrom 162 = .ok (.aload_n 0, 1) := by decide +kernel
theorem dX12_goFrom_163 : decode cX12_goFrom 163 = .ok (.getfield 53, 3) := by decide +kernel
theorem dX12_goFrom_166 : decode cX12_goFrom 166 = .ok (.iload 6, 2) := by decide +kernel
theorem dX12_goFrom_168 : decode cX12_goFrom 168 = .ok (.iaload, 1) := by decide +kernel
theorem dX12_goFrom_169 : decode cX12_goFrom 169 = .ok (.iastore, 1) := by decide +kernel
theorem dX12_goFrom_170 : decode cX12_goFrom 170 = .ok (.iload 4, 2) := by decide +kernel
theorem dX12_goFrom_172 : decode cX12_goFrom 172 = .ok (.ifCond .ne 8, 3) := by decide +kernel
theorem dX12_goFrom_175 : decode cX12_goFrom 175 = .ok (.iload 9, 2) := by decide +kernel
theorem dX12_goFrom_177 : decode cX12_goFrom 177 = .ok (.ifCond .eq 7, 3) := by decide +kernel
theorem dX12_goFrom_180 : decode cX12_goFrom 180 = .ok (.iconst 1, 1) := by decide +kernel
theorem dX12_goFrom_181 : decode cX12_goFrom 181 = .ok (.goto 4, 3) := by decide +kernel
theorem dX12_goFrom_184 : decode cX12_goFrom 184 = .ok (.iconst 0, 1) := by decide +kernel
theorem dX12_goFrom_185 : decode cX12_goFrom 185 = .ok (.istore 4, 2) := by decide +kernel
theorem dX12_goFrom_187 : decode cX12_goFrom 187 = .ok (.iinc 5 1, 3) := by decide +kernel
theorem dX12_goFrom_190 : decode cX12_goFrom 190 = .ok (.goto (-184), 3) := by decide +kernel
theorem dX12_goFrom_193 : decode cX12_goFrom 193 = .ok (.iload 4, 2) := by decide +kernel
theorem dX12_goFrom_195 : decode cX12_goFrom 195 = .ok (.ireturn, 1) := by decide +kernel
theorem dX12_wishedNow_0 : decode cX12_wishedNow 0 = .ok (.aload_n 0, 1) := by decide +kernel
theorem dX12_wishedNow_1 : decode cX12_wishedNow 1 = .ok (.aload_n 0, 1) := by decide +kernel
theorem dX12_wishedNow_2 : decode cX12_wishedNow 2 = .ok (.iload_n 1, 1) := by decide +kernel
theorem dX12_wishedNow_3 : decode cX12_wishedNow 3 = .ok (.invokevirtual 144, 3) := by decide +kernel
theorem dX12_wishedNow_6 : decode cX12_wishedNow 6 = .ok (.iload_n 3, 1) := by decide +kernel
theorem dX12_wishedNow_7 : decode cX12_wishedNow 7 = .ok (.iconst 1, 1) := by decide +kernel
theorem dX12_wishedNow_8 : decode cX12_wishedNow 8 = .ok (.if_icmp .le 7, 3) := by decide +kernel
theorem dX12_wishedNow_11 : decode cX12_wishedNow 11 = .ok (.iconst 1, 1) := by decide +kernel
theorem dX12_wishedNow_12 : decode cX12_wishedNow 12 = .ok (.goto 4, 3) := by decide +kernel
theorem dX12_wishedNow_15 : decode cX12_wishedNow 15 = .ok (.iconst 0, 1) := by decide +kernel
theorem dX12_wishedNow_16 : decode cX12_wishedNow 16 = .ok (.iconst 0, 1) := by decide +kernel
theorem dX12_wishedNow_17 : decode cX12_wishedNow 17 = .ok (.invokevirtual 158, 3) := by decide +kernel
theorem dX12_wishedNow_20 : decode cX12_wishedNow 20 = .ok (.aload_n 0, 1) := by decide +kernel
theorem dX12_wishedNow_21 : decode cX12_wishedNow 21 = .ok (.getfield 50, 3) := by decide +kernel
theorem dX12_wishedNow_24 : decode cX12_wishedNow 24 = .ok (.iload_n 2, 1) := by decide +kernel
theorem dX12_wishedNow_25 : decode cX12_wishedNow 25 = .ok (.iaload, 1) := by decide +kernel
theorem dX12_wishedNow_26 : decode cX12_wishedNow 26 = .ok (.ldc 153, 2) := by decide +kernel
theorem dX12_wishedNow_28 : decode cX12_wishedNow 28 = .ok (.if_icmp .ne 5, 3) := by decide +kernel
theorem dX12_wishedNow_31 : decode cX12_wishedNow 31 = .ok (.iconst (-1), 1) := by decide +kernel
theorem dX12_wishedNow_32 : decode cX12_wishedNow 32 = .ok (.ireturn, 1) := by decide +kernel
theorem dX12_wishedNow_33 : decode cX12_wishedNow 33 = .ok (.iload_n 3, 1) := by decide +kernel
theorem dX12_wishedNow_34 : decode cX12_wishedNow 34 = .ok (.iconst 2, 1) := by decide +kernel
theorem dX12_wishedNow_35 : decode cX12_wishedNow 35 = .ok (.irem, 1) := by decide +kernel
theorem dX12_wishedNow_36 : decode cX12_wishedNow 36 = .ok (.ifCond .ne 12, 3) := by decide +kernel
theorem dX12_wishedNow_39 : decode cX12_wishedNow 39 = .ok (.aload_n 0, 1) := by decide +kernel
theorem dX12_wishedNow_40 : decode cX12_wishedNow 40 = .ok (.getfield 50, 3) := by decide +kernel
theorem dX12_wishedNow_43 : decode cX12_wishedNow 43 = .ok (.iload_n 2, 1) := by decide +kernel
theorem dX12_wishedNow_44 : decode cX12_wishedNow 44 = .ok (.iaload, 1) := by decide +kernel
theorem dX12_wishedNow_45 : decode cX12_wishedNow 45 = .ok (.goto 9, 3) := by decide +kernel
theorem dX12_wishedNow_48 : decode cX12_wishedNow 48 = .ok (.aload_n 0, 1) := by decide +kernel
theorem dX12_wishedNow_49 : decode cX12_wishedNow 49 = .ok (.getfield 53, 3) := by decide +kernel
theorem dX12_wishedNow_52 : decode cX12_wishedNow 52 = .ok (.iload_n 2, 1) := by decide +kernel
theorem dX12_wishedNow_53 : decode cX12_wishedNow 53 = .ok (.iaload, 1) := by decide +kernel
theorem dX12_wishedNow_54 : decode cX12_wishedNow 54 = .ok (.ireturn, 1) := by decide +kernel
theorem dX12_wished_0 : decode cX12_wished 0 = .ok (.aload_n 0, 1) := by decide +kernel
theorem dX12_wished_1 : decode cX12_wished 1 = .ok (.iload_n 1, 1) := by decide +kernel
theorem dX12_wished_2 : decode cX12_wished 2 = .ok (.invokevirtual 147, 3) := by decide +kernel
theorem dX12_wished_5 : decode cX12_wished 5 = .ok (.ifCond .ne 6, 3) := by decide +kernel
theorem dX12_wished_8 : decode cX12_wished 8 = .ok (.bipush (-101), 2) := by decide +kernel
theorem dX12_wished_10 : decode cX12_wished 10 = .ok (.ireturn, 1) := by decide +kernel
theorem dX12_wished_11 : decode cX12_wished 11 = .ok (.iload_n 2, 1) := by decide +kernel
theorem dX12_wished_12 : decode cX12_wished 12 = .ok (.invokestatic 138, 3) := by decide +kernel
theorem dX12_wished_15 : decode cX12_wished 15 = .ok (.ifCond .eq 22, 3) := by decide +kernel
theorem dX12_wished_18 : decode cX12_wished 18 = .ok (.iload_n 3, 1) := by decide +kernel
theorem dX12_wished_19 : decode cX12_wished 19 = .ok (.iconst 0, 1) := by decide +kernel
theorem dX12_wished_20 : decode cX12_wished 20 = .ok (.iconst 3, 1) := by decide +kernel
theorem dX12_wished_21 : decode cX12_wished 21 = .ok (.invokestatic 77, 3) := by decide +kernel
theorem dX12_wished_24 : decode cX12_wished 24 = .ok (.ifCond .eq 13, 3) := by decide +kernel
theorem dX12_wished_27 : decode cX12_wished 27 = .ok (.aload_n 0, 1) := by decide +kernel
theorem dX12_wished_28 : decode cX12_wished 28 = .ok (.iload_n 1, 1) := by decide +kernel
theorem dX12_wished_29 : decode cX12_wished 29 = .ok (.iload_n 2, 1) := by decide +kernel
theorem dX12_wished_30 : decode cX12_wished 30 = .ok (.iload_n 3, 1) := by decide +kernel
theorem dX12_wished_31 : decode cX12_wished 31 = .ok (.invokevirtual 162, 3) := by decide +kernel
theorem dX12_wished_34 : decode cX12_wished 34 = .ok (.goto 5, 3) := by decide +kernel
theorem dX12_wished_37 : decode cX12_wished 37 = .ok (.bipush (-102), 2) := by decide +kernel
theorem dX12_wished_39 : decode cX12_wished 39 = .ok (.ireturn, 1) := by decide +kernel
theorem dX12_reachNow_0 : decode cX12_reachNow 0 = .ok (.aload_n 0, 1) := by decide +kernel
theorem dX12_reachNow_1 : decode cX12_reachNow 1 = .ok (.aload_n 0, 1) := by decide +kernel
theorem dX12_reachNow_2 : decode cX12_reachNow 2 = .ok (.iload_n 1, 1) := by decide +kernel
theorem dX12_reachNow_3 : decode cX12_reachNow 3 = .ok (.invokevirtual 144, 3) := by decide +kernel
theorem dX12_reachNow_6 : decode cX12_reachNow 6 = .ok (.iconst 0, 1) := by decide +kernel
theorem dX12_reachNow_7 : decode cX12_reachNow 7 = .ok (.iconst 0, 1) := by decide +kernel
theorem dX12_reachNow_8 : decode cX12_reachNow 8 = .ok (.invokevirtual 158, 3) := by decide +kernel
theorem dX12_reachNow_11 : decode cX12_reachNow 11 = .ok (.iconst 0, 1) := by decide +kernel
theorem dX12_reachNow_12 : decode cX12_reachNow 12 = .ok (.istore_n 2, 1) := by decide +kernel
theorem dX12_reachNow_13 : decode cX12_reachNow 13 = .ok (.iconst 0, 1) := by decide +kernel
theorem dX12_reachNow_14 : decode cX12_reachNow 14 = .ok (.istore_n 3, 1) := by decide +kernel
theorem dX12_reachNow_15 : decode cX12_reachNow 15 = .ok (.iload_n 3, 1) := by decide +kernel
theorem dX12_reachNow_16 : decode cX12_reachNow 16 = .ok (.sipush 512, 3) := by decide +kernel
theorem dX12_reachNow_19 : decode cX12_reachNow 19 = .ok (.if_icmp .ge 28, 3) := by decide +kernel
theorem dX12_reachNow_22 : decode cX12_reachNow 22 = .ok (.iload_n 2, 1) := by decide +kernel
theorem dX12_reachNow_23 : decode cX12_reachNow 23 = .ok (.aload_n 0, 1) := by decide +kernel
theorem dX12_reachNow_24 : decode cX12_reachNow 24 = .ok (.getfield 50, 3) := by decide +kernel
theorem dX12_reachNow_27 : decode cX12_reachNow 27 = .ok (.iload_n 3, 1) := by decide +kernel
theorem dX12_reachNow_28 : decode cX12_reachNow 28 = .ok (.iaload, 1) := by decide +kernel
theorem dX12_reachNow_29 : decode cX12_reachNow 29 = .ok (.ldc 153, 2) := by decide +kernel
theorem dX12_reachNow_31 : decode cX12_reachNow 31 = .ok (.if_icmp .ne 7, 3) := by decide +kernel
theorem dX12_reachNow_34 : decode cX12_reachNow 34 = .ok (.iconst 0, 1) := by decide +kernel
theorem dX12_reachNow_35 : decode cX12_reachNow 35 = .ok (.goto 4, 3) := by decide +kernel
theorem dX12_reachNow_38 : decode cX12_reachNow 38 = .ok (.iconst 1, 1) := by decide +kernel
theorem dX12_reachNow_39 : decode cX12_reachNow 39 = .ok (.iadd, 1) := by decide +kernel
theorem dX12_reachNow_40 : decode cX12_reachNow 40 = .ok (.istore_n 2, 1) := by decide +kernel
theorem dX12_reachNow_41 : decode cX12_reachNow 41 = .ok (.iinc 3 1, 3) := by decide +kernel
theorem dX12_reachNow_44 : decode cX12_reachNow 44 = .ok (.goto (-29), 3) := by decide +kernel
theorem dX12_reachNow_47 : decode cX12_reachNow 47 = .ok (.iload_n 2, 1) := by decide +kernel
theorem dX12_reachNow_48 : decode cX12_reachNow 48 = .ok (.ireturn, 1) := by decide +kernel
theorem dX12_reach_0 : decode cX12_reach 0 = .ok (.aload_n 0, 1) := by decide +kernel
theorem dX12_reach_1 : decode cX12_reach 1 = .ok (.iload_n 1, 1) := by decide +kernel
theorem dX12_reach_2 : decode cX12_reach 2 = .ok (.invokevirtual 147, 3) := by decide +kernel
theorem dX12_reach_5 : decode cX12_reach 5 = .ok (.ifCond .eq 11, 3) := by decide +kernel
theorem dX12_reach_8 : decode cX12_reach 8 = .ok (.aload_n 0, 1) := by decide +kernel
theorem dX12_reach_9 : decode cX12_reach 9 = .ok (.iload_n 1, 1) := by decide +kernel
theorem dX12_reach_10 : decode cX12_reach 10 = .ok (.invokevirtual 165, 3) := by decide +kernel
theorem dX12_reach_13 : decode cX12_reach 13 = .ok (.goto 5, 3) := by decide +kernel
theorem dX12_reach_16 : decode cX12_reach 16 = .ok (.bipush (-101), 2) := by decide +kernel
theorem dX12_reach_18 : decode cX12_reach 18 = .ok (.ireturn, 1) := by decide +kernel
theorem dX12_isSafe_0 : decode cX12_isSafe 0 = .ok (.aload_n 0, 1) := by decide +kernel
theorem dX12_isSafe_1 : decode cX12_isSafe 1 = .ok (.aload_n 0, 1) := by decide +kernel
theorem dX12_isSafe_2 : decode cX12_isSafe 2 = .ok (.iload_n 1, 1) := by decide +kernel
theorem dX12_isSafe_3 : decode cX12_isSafe 3 = .ok (.invokevirtual 144, 3) := by decide +kernel
theorem dX12_isSafe_6 : decode cX12_isSafe 6 = .ok (.iconst 0, 1) := by decide +kernel
theorem dX12_isSafe_7 : decode cX12_isSafe 7 = .ok (.iload 4, 2) := by decide +kernel
theorem dX12_isSafe_9 : decode cX12_isSafe 9 = .ok (.invokevirtual 158, 3) := by decide +kernel
theorem dX12_isSafe_12 : decode cX12_isSafe 12 = .ok (.iconst 1, 1) := by decide +kernel
theorem dX12_isSafe_13 : decode cX12_isSafe 13 = .ok (.istore 5, 2) := by decide +kernel
theorem dX12_isSafe_15 : decode cX12_isSafe 15 = .ok (.iconst 0, 1) := by decide +kernel
theorem dX12_isSafe_16 : decode cX12_isSafe 16 = .ok (.istore 6, 2) := by decide +kernel
theorem dX12_isSafe_18 : decode cX12_isSafe 18 = .ok (.iload 6, 2) := by decide +kernel
theorem dX12_isSafe_20 : decode cX12_isSafe 20 = .ok (.sipush 512, 3) := by decide +kernel
theorem dX12_isSafe_23 : decode cX12_isSafe 23 = .ok (.if_icmp .ge 43, 3) := by decide +kernel
theorem dX12_isSafe_26 : decode cX12_isSafe 26 = .ok (.iload 5, 2) := by decide +kernel
theorem dX12_isSafe_28 : decode cX12_isSafe 28 = .ok (.ifCond .eq 29, 3) := by decide +kernel
theorem dX12_isSafe_31 : decode cX12_isSafe 31 = .ok (.aload_n 0, 1) := by decide +kernel
theorem dX12_isSafe_32 : decode cX12_isSafe 32 = .ok (.getfield 50, 3) := by decide +kernel
theorem dX12_isSafe_35 : decode cX12_isSafe 35 = .ok (.iload 6, 2) := by decide +kernel
theorem dX12_isSafe_37 : decode cX12_isSafe 37 = .ok (.iaload, 1) := by decide +kernel
theorem dX12_isSafe_38 : decode cX12_isSafe 38 = .ok (.ldc 153, 2) := by decide +kernel
theorem dX12_isSafe_40 : decode cX12_isSafe 40 = .ok (.if_icmp .eq 13, 3) := by decide +kernel
theorem dX12_isSafe_43 : decode cX12_isSafe 43 = .ok (.iload 6, 2) := by decide +kernel
theorem dX12_isSafe_45 : decode cX12_isSafe 45 = .ok (.iload_n 2, 1) := by decide +kernel
theorem dX12_isSafe_46 : decode cX12_isSafe 46 = .ok (.invokestatic 121, 3) := by decide +kernel
theorem dX12_isSafe_49 : decode cX12_isSafe 49 = .ok (.iload_n 3, 1) := by decide +kernel
theorem dX12_isSafe_50 : decode cX12_isSafe 50 = .ok (.if_icmp .lt 7, 3) := by decide +kernel
theorem dX12_isSafe_53 : decode cX12_isSafe 53 = .ok (.iconst 1, 1) := by decide +kernel
theorem dX12_isSafe_54 : decode cX12_isSafe 54 = .ok (.goto 4, 3) := by decide +kernel
theorem dX12_isSafe_57 : decode cX12_isSafe 57 = .ok (.iconst 0, 1) := by decide +kernel
theorem dX12_isSafe_58 : decode cX12_isSafe 58 = .ok (.istore 5, 2) := by decide +kernel
theorem dX12_isSafe_60 : decode cX12_isSafe 60 = .ok (.iinc 6 1, 3) := by decide +kernel
theorem dX12_isSafe_63 : decode cX12_isSafe 63 = .ok (.goto (-45), 3) := by decide +kernel
theorem dX12_isSafe_66 : decode cX12_isSafe 66 = .ok (.iload 5, 2) := by decide +kernel
theorem dX12_isSafe_68 : decode cX12_isSafe 68 = .ok (.ireturn, 1) := by decide +kernel
theorem dX12_spoilersNow_0 : decode cX12_spoilersNow 0 = .ok (.iconst (-1), 1) := by decide +kernel
theorem dX12_spoilersNow_1 : decode cX12_spoilersNow 1 = .ok (.istore 4, 2) := by decide +kernel
theorem dX12_spoilersNow_3 : decode cX12_spoilersNow 3 = .ok (.bipush 7, 2) := by decide +kernel
theorem dX12_spoilersNow_5 : decode cX12_spoilersNow 5 = .ok (.istore 5, 2) := by decide +kernel
theorem dX12_spoilersNow_7 : decode cX12_spoilersNow 7 = .ok (.iconst 0, 1) := by decide +kernel
theorem dX12_spoilersNow_8 : decode cX12_spoilersNow 8 = .ok (.istore 6, 2) := by decide +kernel
theorem dX12_spoilersNow_10 : decode cX12_spoilersNow 10 = .ok (.iload 6, 2) := by decide +kernel
theorem dX12_spoilersNow_12 : decode cX12_spoilersNow 12 = .ok (.iconst 1, 1) := by decide +kernel
theorem dX12_spoilersNow_13 : decode cX12_spoilersNow 13 = .ok (.aload_n 0, 1) := by decide +kernel
theorem dX12_spoilersNow_14 : decode cX12_spoilersNow 14 = .ok (.getfield 103, 3) := by decide +kernel
theorem dX12_spoilersNow_17 : decode cX12_spoilersNow 17 = .ok (.ishl, 1) := by decide +kernel
theorem dX12_spoilersNow_18 : decode cX12_spoilersNow 18 = .ok (.if_icmp .ge 42, 3) := by decide +kernel
theorem dX12_spoilersNow_21 : decode cX12_spoilersNow 21 = .ok (.iload 6, 2) := by decide +kernel
theorem dX12_spoilersNow_23 : decode cX12_spoilersNow 23 = .ok (.invokestatic 168, 3) := by decide +kernel
theorem dX12_spoilersNow_26 : decode cX12_spoilersNow 26 = .ok (.iload 5, 2) := by decide +kernel
theorem dX12_spoilersNow_28 : decode cX12_spoilersNow 28 = .ok (.if_icmp .ge 26, 3) := by decide +kernel
theorem dX12_spoilersNow_31 : decode cX12_spoilersNow 31 = .ok (.aload_n 0, 1) := by decide +kernel
theorem dX12_spoilersNow_32 : decode cX12_spoilersNow 32 = .ok (.iload_n 1, 1) := by decide +kernel
theorem dX12_spoilersNow_33 : decode cX12_spoilersNow 33 = .ok (.iload_n 2, 1) := by decide +kernel
theorem dX12_spoilersNow_34 : decode cX12_spoilersNow 34 = .ok (.iload_n 3, 1) := by decide +kernel
theorem dX12_spoilersNow_35 : decode cX12_spoilersNow 35 = .ok (.iload 6, 2) := by decide +kernel
theorem dX12_spoilersNow_37 : decode cX12_spoilersNow 37 = .ok (.invokevirtual 171, 3) := by decide +kernel
theorem dX12_spoilersNow_40 : decode cX12_spoilersNow 40 = .ok (.ifCond .eq 14, 3) := by decide +kernel
theorem dX12_spoilersNow_43 : decode cX12_spoilersNow 43 = .ok (.iload 6, 2) := by decide +kernel
theorem dX12_spoilersNow_45 : decode cX12_spoilersNow 45 = .ok (.istore 4, 2) := by decide +kernel
theorem dX12_spoilersNow_47 : decode cX12_spoilersNow 47 = .ok (.iload 6, 2) := by decide +kernel
theorem dX12_spoilersNow_49 : decode cX12_spoilersNow 49 = .ok (.invokestatic 168, 3) := by decide +kernel
theorem dX12_spoilersNow_52 : decode cX12_spoilersNow 52 = .ok (.istore 5, 2) := by decide +kernel
theorem dX12_spoilersNow_54 : decode cX12_spoilersNow 54 = .ok (.iinc 6 1, 3) := by decide +kernel
theorem dX12_spoilersNow_57 : decode cX12_spoilersNow 57 = .ok (.goto (-47), 3) := by decide +kernel
theorem dX12_spoilersNow_60 : decode cX12_spoilersNow 60 = .ok (.iload 4, 2) := by decide +kernel
theorem dX12_spoilersNow_62 : decode cX12_spoilersNow 62 = .ok (.ireturn, 1) := by decide +kernel
theorem dX12_spoilers_0 : decode cX12_spoilers 0 = .ok (.aload_n 0, 1) := by decide +kernel
theorem dX12_spoilers_1 : decode cX12_spoilers 1 = .ok (.iload_n 1, 1) := by decide +kernel
theorem dX12_spoilers_2 : decode cX12_spoilers 2 = .ok (.invokevirtual 147, 3) := by decide +kernel
theorem dX12_spoilers_5 : decode cX12_spoilers 5 = .ok (.ifCond .ne 6, 3) := by decide +kernel
theorem dX12_spoilers_8 : decode cX12_spoilers 8 = .ok (.bipush (-101), 2) := by decide +kernel
theorem dX12_spoilers_10 : decode cX12_spoilers 10 = .ok (.ireturn, 1) := by decide +kernel
theorem dX12_spoilers_11 : decode cX12_spoilers 11 = .ok (.iload_n 2, 1) := by decide +kernel
theorem dX12_spoilers_12 : decode cX12_spoilers 12 = .ok (.iconst 0, 1) := by decide +kernel
theorem dX12_spoilers_13 : decode cX12_spoilers 13 = .ok (.iconst 2, 1) := by decide +kernel
theorem dX12_spoilers_14 : decode cX12_spoilers 14 = .ok (.invokestatic 77, 3) := by decide +kernel
theorem dX12_spoilers_17 : decode cX12_spoilers 17 = .ok (.ifCond .eq 23, 3) := by decide +kernel
theorem dX12_spoilers_20 : decode cX12_spoilers 20 = .ok (.iload_n 3, 1) := by decide +kernel
theorem dX12_spoilers_21 : decode cX12_spoilers 21 = .ok (.iconst 1, 1) := by decide +kernel
theorem dX12_spoilers_22 : decode cX12_spoilers 22 = .ok (.bipush 7, 2) := by decide +kernel
theorem dX12_spoilers_24 : decode cX12_spoilers 24 = .ok (.invokestatic 77, 3) := by decide +kernel
theorem dX12_spoilers_27 : decode cX12_spoilers 27 = .ok (.ifCond .eq 13, 3) := by decide +kernel
theorem dX12_spoilers_30 : decode cX12_spoilers 30 = .ok (.aload_n 0, 1) := by decide +kernel
theorem dX12_spoilers_31 : decode cX12_spoilers 31 = .ok (.iload_n 1, 1) := by decide +kernel
theorem dX12_spoilers_32 : decode cX12_spoilers 32 = .ok (.iload_n 2, 1) := by decide +kernel
theorem dX12_spoilers_33 : decode cX12_spoilers 33 = .ok (.iload_n 3, 1) := by decide +kernel
theorem dX12_spoilers_34 : decode cX12_spoilers 34 = .ok (.invokevirtual 175, 3) := by decide +kernel
theorem dX12_spoilers_37 : decode cX12_spoilers 37 = .ok (.goto 5, 3) := by decide +kernel
theorem dX12_spoilers_40 : decode cX12_spoilers 40 = .ok (.bipush (-102), 2) := by decide +kernel
theorem dX12_spoilers_42 : decode cX12_spoilers 42 = .ok (.ireturn, 1) := by decide +kernel
theorem dX12_endsOf_0 : decode cX12_endsOf 0 = .ok (.iload_n 1, 1) := by decide +kernel
theorem dX12_endsOf_1 : decode cX12_endsOf 1 = .ok (.istore_n 2, 1) := by decide +kernel
theorem dX12_endsOf_2 : decode cX12_endsOf 2 = .ok (.iconst 0, 1) := by decide +kernel
theorem dX12_endsOf_3 : decode cX12_endsOf 3 = .ok (.istore_n 3, 1) := by decide +kernel
theorem dX12_endsOf_4 : decode cX12_endsOf 4 = .ok (.iload_n 3, 1) := by decide +kernel
theorem dX12_endsOf_5 : decode cX12_endsOf 5 = .ok (.aload_n 0, 1) := by decide +kernel
theorem dX12_endsOf_6 : decode cX12_endsOf 6 = .ok (.getfield 81, 3) := by decide +kernel
theorem dX12_endsOf_9 : decode cX12_endsOf 9 = .ok (.if_icmp .ge 24, 3) := by decide +kernel
theorem dX12_endsOf_12 : decode cX12_endsOf 12 = .ok (.aload_n 0, 1) := by decide +kernel
theorem dX12_endsOf_13 : decode cX12_endsOf 13 = .ok (.aload_n 0, 1) := by decide +kernel
theorem dX12_endsOf_14 : decode cX12_endsOf 14 = .ok (.getfield 34, 3) := by decide +kernel
theorem dX12_endsOf_17 : decode cX12_endsOf 17 = .ok (.iload_n 3, 1) := by decide +kernel
theorem dX12_endsOf_18 : decode cX12_endsOf 18 = .ok (.baload, 1) := by decide +kernel
theorem dX12_endsOf_19 : decode cX12_endsOf 19 = .ok (.bipush 48, 2) := by decide +kernel
theorem dX12_endsOf_21 : decode cX12_endsOf 21 = .ok (.isub, 1) := by decide +kernel
theorem dX12_endsOf_22 : decode cX12_endsOf 22 = .ok (.iload_n 2, 1) := by decide +kernel
theorem dX12_endsOf_23 : decode cX12_endsOf 23 = .ok (.invokevirtual 141, 3) := by decide +kernel
theorem dX12_endsOf_26 : decode cX12_endsOf 26 = .ok (.istore_n 2, 1) := by decide +kernel
theorem dX12_endsOf_27 : decode cX12_endsOf 27 = .ok (.iinc 3 1, 3) := by decide +kernel
theorem dX12_endsOf_30 : decode cX12_endsOf 30 = .ok (.goto (-26), 3) := by decide +kernel
theorem dX12_endsOf_33 : decode cX12_endsOf 33 = .ok (.iload_n 2, 1) := by decide +kernel
theorem dX12_endsOf_34 : decode cX12_endsOf 34 = .ok (.ireturn, 1) := by decide +kernel
theorem dX12_backNow_0 : decode cX12_backNow 0 = .ok (.iconst 0, 1) := by decide +kernel
theorem dX12_backNow_1 : decode cX12_backNow 1 = .ok (.istore_n 1, 1) := by decide +kernel
theorem dX12_backNow_2 : decode cX12_backNow 2 = .ok (.iload_n 1, 1) := by decide +kernel
theorem dX12_backNow_3 : decode cX12_backNow 3 = .ok (.sipush 512, 3) := by decide +kernel
theorem dX12_backNow_6 : decode cX12_backNow 6 = .ok (.if_icmp .ge 16, 3) := by decide +kernel
theorem dX12_backNow_9 : decode cX12_backNow 9 = .ok (.aload_n 0, 1) := by decide +kernel
theorem dX12_backNow_10 : decode cX12_backNow 10 = .ok (.getfield 50, 3) := by decide +kernel
theorem dX12_backNow_13 : decode cX12_backNow 13 = .ok (.iload_n 1, 1) := by decide +kernel
theorem dX12_backNow_14 : decode cX12_backNow 14 = .ok (.iload_n 1, 1) := by decide +kernel
theorem dX12_backNow_15 : decode cX12_backNow 15 = .ok (.iastore, 1) := by decide +kernel
theorem dX12_backNow_16 : decode cX12_backNow 16 = .ok (.iinc 1 1, 3) := by decide +kernel
theorem dX12_backNow_19 : decode cX12_backNow 19 = .ok (.goto (-17), 3) := by decide +kernel
theorem dX12_backNow_22 : decode cX12_backNow 22 = .ok (.iconst 1, 1) := by decide +kernel
theorem dX12_backNow_23 : decode cX12_backNow 23 = .ok (.istore_n 1, 1) := by decide +kernel
theorem dX12_backNow_24 : decode cX12_backNow 24 = .ok (.iload_n 1, 1) := by decide +kernel
theorem dX12_backNow_25 : decode cX12_backNow 25 = .ok (.bipush 60, 2) := by decide +kernel
theorem dX12_backNow_27 : decode cX12_backNow 27 = .ok (.if_icmp .gt 68, 3) := by decide +kernel
theorem dX12_backNow_30 : decode cX12_backNow 30 = .ok (.iconst 1, 1) := by decide +kernel
theorem dX12_backNow_31 : decode cX12_backNow 31 = .ok (.istore_n 2, 1) := by decide +kernel
theorem dX12_backNow_32 : decode cX12_backNow 32 = .ok (.iconst 0, 1) := by decide +kernel
theorem dX12_backNow_33 : decode cX12_backNow 33 = .ok (.istore_n 3, 1) := by decide +kernel
theorem dX12_backNow_34 : decode cX12_backNow 34 = .ok (.iload_n 3, 1) := by decide +kernel
theorem dX12_backNow_35 : decode cX12_backNow 35 = .ok (.sipush 512, 3) := by decide +kernel
theorem dX12_backNow_38 : decode cX12_backNow 38 = .ok (.if_icmp .ge 45, 3) := by decide +kernel
theorem dX12_backNow_41 : decode cX12_backNow 41 = .ok (.aload_n 0, 1) := by decide +kernel
theorem dX12_backNow_42 : decode cX12_backNow 42 = .ok (.getfield 50, 3) := by decide +kernel
theorem dX12_backNow_45 : decode cX12_backNow 45 = .ok (.iload_n 3, 1) := by decide +kernel
theorem dX12_backNow_46 : decode cX12_backNow 46 = .ok (.aload_n 0, 1) := by decide +kernel
theorem dX12_backNow_47 : decode cX12_backNow 47 = .ok (.aload_n 0, 1) := by decide +kernel
theorem dX12_backNow_48 : decode cX12_backNow 48 = .ok (.getfield 50, 3) := by decide +kernel
theorem dX12_backNow_51 : decode cX12_backNow 51 = .ok (.iload_n 3, 1) := by decide +kernel
theorem dX12_backNow_52 : decode cX12_backNow 52 = .ok (.iaload, 1) := by decide +kernel
theorem dX12_backNow_53 : decode cX12_backNow 53 = .ok (.invokevirtual 178, 3) := by decide +kernel
theorem dX12_backNow_56 : decode cX12_backNow 56 = .ok (.iastore, 1) := by decide +kernel
theorem dX12_backNow_57 : decode cX12_backNow 57 = .ok (.iload_n 2, 1) := by decide +kernel
theorem dX12_backNow_58 : decode cX12_backNow 58 = .ok (.ifCond .eq 17, 3) := by decide +kernel
theorem dX12_backNow_61 : decode cX12_backNow 61 = .ok (.aload_n 0, 1) := by decide +kernel
theorem dX12_backNow_62 : decode cX12_backNow 62 = .ok (.getfield 50, 3) := by decide +kernel
theorem dX12_backNow_65 : decode cX12_backNow 65 = .ok (.iload_n 3, 1) := by decide +kernel
theorem dX12_backNow_66 : decode cX12_backNow 66 = .ok (.iaload, 1) := by decide +kernel
theorem dX12_backNow_67 : decode cX12_backNow 67 = .ok (.iload_n 3, 1) := by decide +kernel
theorem dX12_backNow_68 : decode cX12_backNow 68 = .ok (.if_icmp .ne 7, 3) := by decide +kernel
theorem dX12_backNow_71 : decode cX12_backNow 71 = .ok (.iconst 1, 1) := by decide +kernel
theorem dX12_backNow_72 : decode cX12_backNow 72 = .ok (.goto 4, 3) := by decide +kernel
theorem dX12_backNow_75 : decode cX12_backNow 75 = .ok (.iconst 0, 1) := by decide +kernel
theorem dX12_backNow_76 : decode cX12_backNow 76 = .ok (.istore_n 2, 1) := by decide +kernel
theorem dX12_backNow_77 : decode cX12_backNow 77 = .ok (.iinc 3 1, 3) := by decide +kernel
theorem dX12_backNow_80 : decode cX12_backNow 80 = .ok (.goto (-46), 3) := by decide +kernel
theorem dX12_backNow_83 : decode cX12_backNow 83 = .ok (.iload_n 2, 1) := by decide +kernel
theorem dX12_backNow_84 : decode cX12_backNow 84 = .ok (.ifCond .eq 5, 3) := by decide +kernel
theorem dX12_backNow_87 : decode cX12_backNow 87 = .ok (.iload_n 1, 1) := by decide +kernel
theorem dX12_backNow_88 : decode cX12_backNow 88 = .ok (.ireturn, 1) := by decide +kernel
theorem dX12_backNow_89 : decode cX12_backNow 89 = .ok (.iinc 1 1, 3) := by decide +kernel
theorem dX12_backNow_92 : decode cX12_backNow 92 = .ok (.goto (-68), 3) := by decide +kernel
theorem dX12_backNow_95 : decode cX12_backNow 95 = .ok (.iconst (-1), 1) := by decide +kernel
theorem dX12_backNow_96 : decode cX12_backNow 96 = .ok (.ireturn, 1) := by decide +kernel
theorem dX12_round_0 : decode cX12_round 0 = .ok (.iload_n 1, 1) := by decide +kernel
theorem dX12_round_1 : decode cX12_round 1 = .ok (.invokestatic 138, 3) := by decide +kernel
theorem dX12_round_4 : decode cX12_round 4 = .ok (.ifCond .eq 12, 3) := by decide +kernel
theorem dX12_round_7 : decode cX12_round 7 = .ok (.iload_n 2, 1) := by decide +kernel
theorem dX12_round_8 : decode cX12_round 8 = .ok (.iconst 0, 1) := by decide +kernel
theorem dX12_round_9 : decode cX12_round 9 = .ok (.iconst 1, 1) := by decide +kernel
theorem dX12_round_10 : decode cX12_round 10 = .ok (.invokestatic 77, 3) := by decide +kernel
theorem dX12_round_13 : decode cX12_round 13 = .ok (.ifCond .ne 6, 3) := by decide +kernel
theorem dX12_round_16 : decode cX12_round 16 = .ok (.bipush (-102), 2) := by decide +kernel
theorem dX12_round_18 : decode cX12_round 18 = .ok (.ireturn, 1) := by decide +kernel
theorem dX12_round_19 : decode cX12_round 19 = .ok (.aload_n 0, 1) := by decide +kernel
theorem dX12_round_20 : decode cX12_round 20 = .ok (.invokevirtual 109, 3) := by decide +kernel
theorem dX12_round_23 : decode cX12_round 23 = .ok (.aload_n 0, 1) := by decide +kernel
theorem dX12_round_24 : decode cX12_round 24 = .ok (.getfield 96, 3) := by decide +kernel
theorem dX12_round_27 : decode cX12_round 27 = .ok (.ifCond .ne 6, 3) := by decide +kernel
theorem dX12_round_30 : decode cX12_round 30 = .ok (.bipush (-103), 2) := by decide +kernel
theorem dX12_round_32 : decode cX12_round 32 = .ok (.ireturn, 1) := by decide +kernel
theorem dX12_round_33 : decode cX12_round 33 = .ok (.iload_n 2, 1) := by decide +kernel
theorem dX12_round_34 : decode cX12_round 34 = .ok (.ifCond .ne 10, 3) := by decide +kernel
theorem dX12_round_37 : decode cX12_round 37 = .ok (.aload_n 0, 1) := by decide +kernel
theorem dX12_round_38 : decode cX12_round 38 = .ok (.invokevirtual 181, 3) := by decide +kernel
theorem dX12_round_41 : decode cX12_round 41 = .ok (.goto 8, 3) := by decide +kernel
theorem dX12_round_44 : decode cX12_round 44 = .ok (.aload_n 0, 1) := by decide +kernel
theorem dX12_round_45 : decode cX12_round 45 = .ok (.iload_n 1, 1) := by decide +kernel
theorem dX12_round_46 : decode cX12_round 46 = .ok (.invokevirtual 178, 3) := by decide +kernel
theorem dX12_round_49 : decode cX12_round 49 = .ok (.ireturn, 1) := by decide +kernel
theorem dX12_rowsWithout_0 : decode cX12_rowsWithout 0 = .ok (.iconst 0, 1) := by decide +kernel
theorem dX12_rowsWithout_1 : decode cX12_rowsWithout 1 = .ok (.istore 5, 2) := by decide +kernel
theorem dX12_rowsWithout_3 : decode cX12_rowsWithout 3 = .ok (.iload 5, 2) := by decide +kernel
theorem dX12_rowsWithout_5 : decode cX12_rowsWithout 5 = .ok (.sipush 512, 3) := by decide +kernel
theorem dX12_rowsWithout_8 : decode cX12_rowsWithout 8 = .ok (.if_icmp .ge 27, 3) := by decide +kernel
theorem dX12_rowsWithout_11 : decode cX12_rowsWithout 11 = .ok (.aload_n 0, 1) := by decide +kernel
theorem dX12_rowsWithout_12 : decode cX12_rowsWithout 12 = .ok (.getfield 56, 3) := by decide +kernel
theorem dX12_rowsWithout_15 : decode cX12_rowsWithout 15 = .ok (.iload 5, 2) := by decide +kernel
theorem dX12_rowsWithout_17 : decode cX12_rowsWithout 17 = .ok (.iload 5, 2) := by decide +kernel
theorem dX12_rowsWithout_19 : decode cX12_rowsWithout 19 = .ok (.iload_n 1, 1) := by decide +kernel
theorem dX12_rowsWithout_20 : decode cX12_rowsWithout 20 = .ok (.if_icmp .ne 7, 3) := by decide +kernel
theorem dX12_rowsWithout_23 : decode cX12_rowsWithout 23 = .ok (.iconst 1, 1) := by decide +kernel
theorem dX12_rowsWithout_24 : decode cX12_rowsWithout 24 = .ok (.goto 4, 3) := by decide +kernel
theorem dX12_rowsWithout_27 : decode cX12_rowsWithout 27 = .ok (.iconst 0, 1) := by decide +kernel
theorem dX12_rowsWithout_28 : decode cX12_rowsWithout 28 = .ok (.iastore, 1) := by decide +kernel
theorem dX12_rowsWithout_29 : decode cX12_rowsWithout 29 = .ok (.iinc 5 1, 3) := by decide +kernel
theorem dX12_rowsWithout_32 : decode cX12_rowsWithout 32 = .ok (.goto (-29), 3) := by decide +kernel
theorem dX12_rowsWithout_35 : decode cX12_rowsWithout 35 = .ok (.iconst 0, 1) := by decide +kernel
theorem dX12_rowsWithout_36 : decode cX12_rowsWithout 36 = .ok (.istore 5, 2) := by decide +kernel
theorem dX12_rowsWithout_38 : decode cX12_rowsWithout 38 = .ok (.iload 5, 2) := by decide +kernel
theorem dX12_rowsWithout_40 : decode cX12_rowsWithout 40 = .ok (.iload_n 3, 1) := by decide +kernel
theorem dX12_rowsWithout_41 : decode cX12_rowsWithout 41 = .ok (.if_icmp .ge 144, 3) := by decide +kernel
theorem dX12_rowsWithout_44 : decode cX12_rowsWithout 44 = .ok (.iconst 0, 1) := by decide +kernel
theorem dX12_rowsWithout_45 : decode cX12_rowsWithout 45 = .ok (.istore 6, 2) := by decide +kernel
theorem dX12_rowsWithout_47 : decode cX12_rowsWithout 47 = .ok (.iload 6, 2) := by decide +kernel
theorem dX12_rowsWithout_49 : decode cX12_rowsWithout 49 = .ok (.sipush 512, 3) := by decide +kernel
theorem dX12_rowsWithout_52 : decode cX12_rowsWithout 52 = .ok (.if_icmp .ge 17, 3) := by decide +kernel
theorem dX12_rowsWithout_55 : decode cX12_rowsWithout 55 = .ok (.aload_n 0, 1) := by decide +kernel
theorem dX12_rowsWithout_56 : decode cX12_rowsWithout 56 = .ok (.getfield 59, 3) := by decide +kernel
theorem dX12_rowsWithout_59 : decode cX12_rowsWithout 59 = .ok (.iload 6, 2) := by decide +kernel
theorem dX12_rowsWithout_61 : decode cX12_rowsWithout 61 = .ok (.iconst 0, 1) := by decide +kernel
theorem dX12_rowsWithout_62 : decode cX12_rowsWithout 62 = .ok (.iastore, 1) := by decide +kernel
theorem dX12_rowsWithout_63 : decode cX12_rowsWithout 63 = .ok (.iinc 6 1, 3) := by decide +kernel
theorem dX12_rowsWithout_66 : decode cX12_rowsWithout 66 = .ok (.goto (-19), 3) := by decide +kernel
theorem dX12_rowsWithout_69 : decode cX12_rowsWithout 69 = .ok (.iconst 0, 1) := by decide +kernel
theorem dX12_rowsWithout_70 : decode cX12_rowsWithout 70 = .ok (.istore 6, 2) := by decide +kernel
theorem dX12_rowsWithout_72 : decode cX12_rowsWithout 72 = .ok (.iload 6, 2) := by decide +kernel
theorem dX12_rowsWithout_74 : decode cX12_rowsWithout 74 = .ok (.sipush 512, 3) := by decide +kernel
theorem dX12_rowsWithout_77 : decode cX12_rowsWithout 77 = .ok (.if_icmp .ge 71, 3) := by decide +kernel
theorem dX12_rowsWithout_80 : decode cX12_rowsWithout 80 = .ok (.iconst 0, 1) := by decide +kernel
theorem dX12_rowsWithout_81 : decode cX12_rowsWithout 81 = .ok (.istore 7, 2) := by decide +kernel
theorem dX12_rowsWithout_83 : decode cX12_rowsWithout 83 = .ok (.iload 7, 2) := by decide +kernel
theorem dX12_rowsWithout_85 : decode cX12_rowsWithout 85 = .ok (.aload_n 0, 1) := by decide +kernel
theorem dX12_rowsWithout_86 : decode cX12_rowsWithout 86 = .ok (.getfield 103, 3) := by decide +kernel
theorem dX12_rowsWithout_89 : decode cX12_rowsWithout 89 = .ok (.if_icmp .ge 53, 3) := by decide +kernel
theorem dX12_rowsWithout_92 : decode cX12_rowsWithout 92 = .ok (.aload_n 0, 1) := by decide +kernel
theorem dX12_rowsWithout_93 : decode cX12_rowsWithout 93 = .ok (.getfield 56, 3) := by decide +kernel
theorem dX12_rowsWithout_96 : decode cX12_rowsWithout 96 = .ok (.iload 6, 2) := by decide +kernel
theorem dX12_rowsWithout_98 : decode cX12_rowsWithout 98 = .ok (.iaload, 1) := by decide +kernel
theorem dX12_rowsWithout_99 : decode cX12_rowsWithout 99 = .ok (.ifCond .le 43, 3) := by decide +kernel
theorem dX12_rowsWithout_102 : decode cX12_rowsWithout 102 = .ok (.aload_n 0, 1) := by decide +kernel
theorem dX12_rowsWithout_103 : decode cX12_rowsWithout 103 = .ok (.getfield 59, 3) := by decide +kernel
theorem dX12_rowsWithout_106 : decode cX12_rowsWithout 106 = .ok (.aload_n 0, 1) := by decide +kernel
theorem dX12_rowsWithout_107 : decode cX12_rowsWithout 107 = .ok (.iload 7, 2) := by decide +kernel
theorem dX12_rowsWithout_109 : decode cX12_rowsWithout 109 = .ok (.iload 6, 2) := by decide +kernel
theorem dX12_rowsWithout_111 : decode cX12_rowsWithout 111 = .ok (.invokevirtual 141, 3) := by decide +kernel
theorem dX12_rowsWithout_114 : decode cX12_rowsWithout 114 = .ok (.dup2, 1) := by decide +kernel
theorem dX12_rowsWithout_115 : decode cX12_rowsWithout 115 = .ok (.iaload, 1) := by decide +kernel
theorem dX12_rowsWithout_116 : decode cX12_rowsWithout 116 = .ok (.iload 7, 2) := by decide +kernel
theorem dX12_rowsWithout_118 : decode cX12_rowsWithout 118 = .ok (.iload 4, 2) := by decide +kernel
theorem dX12_rowsWithout_120 : decode cX12_rowsWithout 120 = .ok (.if_icmp .ne 7, 3) := by decide +kernel
theorem dX12_rowsWithout_123 : decode cX12_rowsWithout 123 = .ok (.iconst 0, 1) := by decide +kernel
theorem dX12_rowsWithout_124 : decode cX12_rowsWithout 124 = .ok (.goto 10, 3) := by decide +kernel
theorem dX12_rowsWithout_127 : decode cX12_rowsWithout 127 = .ok (.aload_n 0, 1) := by decide +kernel
theorem dX12_rowsWithout_128 : decode cX12_rowsWithout 128 = .ok (.getfield 56, 3) := by decide +kernel
theorem dX12_rowsWithout_131 : decode cX12_rowsWithout 131 = .ok (.iload 6, 2) := by decide +kernel
theorem dX12_rowsWithout_133 : decode cX12_rowsWithout 133 = .ok (.iaload, 1) := by decide +kernel
theorem dX12_rowsWithout_134 : decode cX12_rowsWithout 134 = .ok (.iadd, 1) := by decide +kernel
theorem dX12_rowsWithout_135 : decode cX12_rowsWithout 135 = .ok (.iastore, 1) := by decide +kernel
theorem dX12_rowsWithout_136 : decode cX12_rowsWithout 136 = .ok (.iinc 7 1, 3) := by decide +kernel
theorem dX12_rowsWithout_139 : decode cX12_rowsWithout 139 = .ok (.goto (-56), 3) := by decide +kernel
theorem dX12_rowsWithout_142 : decode cX12_rowsWithout 142 = .ok (.iinc 6 1, 3) := by decide +kernel
theorem dX12_rowsWithout_145 : decode cX12_rowsWithout 145 = .ok (.goto (-73), 3) := by decide +kernel
theorem dX12_rowsWithout_148 : decode cX12_rowsWithout 148 = .ok (.iconst 0, 1) := by decide +kernel
theorem dX12_rowsWithout_149 : decode cX12_rowsWithout 149 = .ok (.istore 6, 2) := by decide +kernel
theorem dX12_rowsWithout_151 : decode cX12_rowsWithout 151 = .ok (.iload 6, 2) := by decide +kernel
theorem dX12_rowsWithout_153 : decode cX12_rowsWithout 153 = .ok (.sipush 512, 3) := by decide +kernel
theorem dX12_rowsWithout_156 : decode cX12_rowsWithout 156 = .ok (.if_icmp .ge 23, 3) := by decide +kernel
theorem dX12_rowsWithout_159 : decode cX12_rowsWithout 159 = .ok (.aload_n 0, 1) := by decide +kernel
theorem dX12_rowsWithout_160 : decode cX12_rowsWithout 160 = .ok (.getfield 56, 3) := by decide +kernel
theorem dX12_rowsWithout_163 : decode cX12_rowsWithout 163 = .ok (.iload 6, 2) := by decide +kernel
theorem dX12_rowsWithout_165 : decode cX12_rowsWithout 165 = .ok (.aload_n 0, 1) := by decide +kernel
theorem dX12_rowsWithout_166 : decode cX12_rowsWithout 166 = .ok (.getfield 59, 3) := by decide +kernel
theorem dX12_rowsWithout_169 : decode cX12_rowsWithout 169 = .ok (.iload 6, 2) := by decide +kernel
theorem dX12_rowsWithout_171 : decode cX12_rowsWithout 171 = .ok (.iaload, 1) := by decide +kernel
theorem dX12_rowsWithout_172 : decode cX12_rowsWithout 172 = .ok (.iastore, 1) := by decide +kernel
theorem dX12_rowsWithout_173 : decode cX12_rowsWithout 173 = .ok (.iinc 6 1, 3) := by decide +kernel
theorem dX12_rowsWithout_176 : decode cX12_rowsWithout 176 = .ok (.goto (-25), 3) := by decide +kernel
theorem dX12_rowsWithout_179 : decode cX12_rowsWithout 179 = .ok (.iinc 5 1, 3) := by decide +kernel
theorem dX12_rowsWithout_182 : decode cX12_rowsWithout 182 = .ok (.goto (-144), 3) := by decide +kernel
theorem dX12_rowsWithout_185 : decode cX12_rowsWithout 185 = .ok (.aload_n 0, 1) := by decide +kernel
theorem dX12_rowsWithout_186 : decode cX12_rowsWithout 186 = .ok (.getfield 56, 3) := by decide +kernel
theorem dX12_rowsWithout_189 : decode cX12_rowsWithout 189 = .ok (.iload_n 2, 1) := by decide +kernel
theorem dX12_rowsWithout_190 : decode cX12_rowsWithout 190 = .ok (.iaload, 1) := by decide +kernel
theorem dX12_rowsWithout_191 : decode cX12_rowsWithout 191 = .ok (.ireturn, 1) := by decide +kernel
theorem dX12_handsNow_0 : decode cX12_handsNow 0 = .ok (.aload_n 0, 1) := by decide +kernel
theorem dX12_handsNow_1 : decode cX12_handsNow 1 = .ok (.iload_n 1, 1) := by decide +kernel
theorem dX12_handsNow_2 : decode cX12_handsNow 2 = .ok (.iload_n 2, 1) := by decide +kernel
theorem dX12_handsNow_3 : decode cX12_handsNow 3 = .ok (.iload_n 3, 1) := by decide +kernel
theorem dX12_handsNow_4 : decode cX12_handsNow 4 = .ok (.iconst (-1), 1) := by decide +kernel
theorem dX12_handsNow_5 : decode cX12_handsNow 5 = .ok (.invokevirtual 185, 3) := by decide +kernel
theorem dX12_handsNow_8 : decode cX12_handsNow 8 = .ok (.istore 5, 2) := by decide +kernel
theorem dX12_handsNow_10 : decode cX12_handsNow 10 = .ok (.iload 4, 2) := by decide +kernel
theorem dX12_handsNow_12 : decode cX12_handsNow 12 = .ok (.ifCond .ne 6, 3) := by decide +kernel
theorem dX12_handsNow_15 : decode cX12_handsNow 15 = .ok (.iload 5, 2) := by decide +kernel
theorem dX12_handsNow_17 : decode cX12_handsNow 17 = .ok (.ireturn, 1) := by decide +kernel
theorem dX12_handsNow_18 : decode cX12_handsNow 18 = .ok (.iconst 0, 1) := by decide +kernel
theorem dX12_handsNow_19 : decode cX12_handsNow 19 = .ok (.istore 6, 2) := by decide +kernel
theorem dX12_handsNow_21 : decode cX12_handsNow 21 = .ok (.iconst 0, 1) := by decide +kernel
theorem dX12_handsNow_22 : decode cX12_handsNow 22 = .ok (.istore 7, 2) := by decide +kernel
theorem dX12_handsNow_24 : decode cX12_handsNow 24 = .ok (.iload 7, 2) := by decide +kernel
theorem dX12_handsNow_26 : decode cX12_handsNow 26 = .ok (.aload_n 0, 1) := by decide +kernel
theorem dX12_handsNow_27 : decode cX12_handsNow 27 = .ok (.getfield 103, 3) := by decide +kernel
theorem dX12_handsNow_30 : decode cX12_handsNow 30 = .ok (.if_icmp .ge 39, 3) := by decide +kernel
theorem dX12_handsNow_33 : decode cX12_handsNow 33 = .ok (.iload 5, 2) := by decide +kernel
theorem dX12_handsNow_35 : decode cX12_handsNow 35 = .ok (.ifCond .le 34, 3) := by decide +kernel
theorem dX12_handsNow_38 : decode cX12_handsNow 38 = .ok (.iload 6, 2) := by decide +kernel
theorem dX12_handsNow_40 : decode cX12_handsNow 40 = .ok (.aload_n 0, 1) := by decide +kernel
theorem dX12_handsNow_41 : decode cX12_handsNow 41 = .ok (.iload_n 1, 1) := by decide +kernel
theorem dX12_handsNow_42 : decode cX12_handsNow 42 = .ok (.iload_n 2, 1) := by decide +kernel
theorem dX12_handsNow_43 : decode cX12_handsNow 43 = .ok (.iload_n 3, 1) := by decide +kernel
theorem dX12_handsNow_44 : decode cX12_handsNow 44 = .ok (.iload 7, 2) := by decide +kernel
theorem dX12_handsNow_46 : decode cX12_handsNow 46 = .ok (.invokevirtual 185, 3) := by decide +kernel
theorem dX12_handsNow_49 : decode cX12_handsNow 49 = .ok (.ifCond .ne 10, 3) := by decide +kernel
theorem dX12_handsNow_52 : decode cX12_handsNow 52 = .ok (.iconst 1, 1) := by decide +kernel
theorem dX12_handsNow_53 : decode cX12_handsNow 53 = .ok (.iload 7, 2) := by decide +kernel
theorem dX12_handsNow_55 : decode cX12_handsNow 55 = .ok (.ishl, 1) := by decide +kernel
theorem dX12_handsNow_56 : decode cX12_handsNow 56 = .ok (.goto 4, 3) := by decide +kernel
theorem dX12_handsNow_59 : decode cX12_handsNow 59 = .ok (.iconst 0, 1) := by decide +kernel
theorem dX12_handsNow_60 : decode cX12_handsNow 60 = .ok (.ior, 1) := by decide +kernel
theorem dX12_handsNow_61 : decode cX12_handsNow 61 = .ok (.istore 6, 2) := by decide +kernel
theorem dX12_handsNow_63 : decode cX12_handsNow 63 = .ok (.iinc 7 1, 3) := by decide +kernel
theorem dX12_handsNow_66 : decode cX12_handsNow 66 = .ok (.goto (-42), 3) := by decide +kernel
theorem dX12_handsNow_69 : decode cX12_handsNow 69 = .ok (.iload 6, 2) := by decide +kernel
theorem dX12_handsNow_71 : decode cX12_handsNow 71 = .ok (.ireturn, 1) := by decide +kernel
theorem dX12_hands_0 : decode cX12_hands 0 = .ok (.iload_n 1, 1) := by decide +kernel
theorem dX12_hands_1 : decode cX12_hands 1 = .ok (.invokestatic 138, 3) := by decide +kernel
theorem dX12_hands_4 : decode cX12_hands 4 = .ok (.ifCond .eq 30, 3) := by decide +kernel
theorem dX12_hands_7 : decode cX12_hands 7 = .ok (.iload_n 2, 1) := by decide +kernel
theorem dX12_hands_8 : decode cX12_hands 8 = .ok (.invokestatic 138, 3) := by decide +kernel
theorem dX12_hands_11 : decode cX12_hands 11 = .ok (.ifCond .eq 23, 3) := by decide +kernel
theorem dX12_hands_14 : decode cX12_hands 14 = .ok (.iload_n 3, 1) := by decide +kernel
theorem dX12_hands_15 : decode cX12_hands 15 = .ok (.iconst 0, 1) := by decide +kernel
theorem dX12_hands_16 : decode cX12_hands 16 = .ok (.bipush 6, 2) := by decide +kernel
theorem dX12_hands_18 : decode cX12_hands 18 = .ok (.invokestatic 77, 3) := by decide +kernel
theorem dX12_hands_21 : decode cX12_hands 21 = .ok (.ifCond .eq 13, 3) := by decide +kernel
theorem dX12_hands_24 : decode cX12_hands 24 = .ok (.iload 4, 2) := by decide +kernel
theorem dX12_hands_26 : decode cX12_hands 26 = .ok (.iconst 0, 1) := by decide +kernel
theorem dX12_hands_27 : decode cX12_hands 27 = .ok (.iconst 1, 1) := by decide +kernel
theorem dX12_hands_28 : decode cX12_hands 28 = .ok (.invokestatic 77, 3) := by decide +kernel
theorem dX12_hands_31 : decode cX12_hands 31 = .ok (.ifCond .ne 6, 3) := by decide +kernel
theorem dX12_hands_34 : decode cX12_hands 34 = .ok (.bipush (-102), 2) := by decide +kernel
theorem dX12_hands_36 : decode cX12_hands 36 = .ok (.ireturn, 1) := by decide +kernel
theorem dX12_hands_37 : decode cX12_hands 37 = .ok (.aload_n 0, 1) := by decide +kernel
theorem dX12_hands_38 : decode cX12_hands 38 = .ok (.getfield 103, 3) := by decide +kernel
theorem dX12_hands_41 : decode cX12_hands 41 = .ok (.ifCond .eq 12, 3) := by decide +kernel
theorem dX12_hands_44 : decode cX12_hands 44 = .ok (.aload_n 0, 1) := by decide +kernel
theorem dX12_hands_45 : decode cX12_hands 45 = .ok (.getfield 189, 3) := by decide +kernel
theorem dX12_hands_48 : decode cX12_hands 48 = .ok (.bipush 60, 2) := by decide +kernel
theorem dX12_hands_50 : decode cX12_hands 50 = .ok (.if_icmp .ne 6, 3) := by decide +kernel
theorem dX12_hands_53 : decode cX12_hands 53 = .ok (.bipush (-103), 2) := by decide +kernel
theorem dX12_hands_55 : decode cX12_hands 55 = .ok (.ireturn, 1) := by decide +kernel
theorem dX12_hands_56 : decode cX12_hands 56 = .ok (.aload_n 0, 1) := by decide +kernel
theorem dX12_hands_57 : decode cX12_hands 57 = .ok (.dup, 1) := by decide +kernel
theorem dX12_hands_58 : decode cX12_hands 58 = .ok (.getfield 189, 3) := by decide +kernel
theorem dX12_hands_61 : decode cX12_hands 61 = .ok (.iconst 1, 1) := by decide +kernel
theorem dX12_hands_62 : decode cX12_hands 62 = .ok (.iadd, 1) := by decide +kernel
theorem dX12_hands_63 : decode cX12_hands 63 = .ok (.putfield 189, 3) := by decide +kernel
theorem dX12_hands_66 : decode cX12_hands 66 = .ok (.aload_n 0, 1) := by decide +kernel
theorem dX12_hands_67 : decode cX12_hands 67 = .ok (.iload_n 1, 1) := by decide +kernel
theorem dX12_hands_68 : decode cX12_hands 68 = .ok (.iload_n 2, 1) := by decide +kernel
theorem dX12_hands_69 : decode cX12_hands 69 = .ok (.iload_n 3, 1) := by decide +kernel
theorem dX12_hands_70 : decode cX12_hands 70 = .ok (.iload 4, 2) := by decide +kernel
theorem dX12_hands_72 : decode cX12_hands 72 = .ok (.invokevirtual 192, 3) := by decide +kernel
theorem dX12_hands_75 : decode cX12_hands 75 = .ok (.ireturn, 1) := by decide +kernel
theorem dX12_draw_0 : decode cX12_draw 0 = .ok (.aload_n 0, 1) := by decide +kernel
theorem dX12_draw_1 : decode cX12_draw 1 = .ok (.ldc2_w 195, 3) := by decide +kernel
theorem dX12_draw_4 : decode cX12_draw 4 = .ok (.aload_n 0, 1) := by decide +kernel
theorem dX12_draw_5 : decode cX12_draw 5 = .ok (.getfield 197, 3) := by decide +kernel
theorem dX12_draw_8 : decode cX12_draw 8 = .ok (.lmul, 1) := by decide +kernel
theorem dX12_draw_9 : decode cX12_draw 9 = .ok (.ldc2_w 201, 3) := by decide +kernel
theorem dX12_draw_12 : decode cX12_draw 12 = .ok (.ladd, 1) := by decide +kernel
theorem dX12_draw_13 : decode cX12_draw 13 = .ok (.ldc2_w 203, 3) := by decide +kernel
theorem dX12_draw_16 : decode cX12_draw 16 = .ok (.land, 1) := by decide +kernel
theorem dX12_draw_17 : decode cX12_draw 17 = .ok (.putfield 197, 3) := by decide +kernel
theorem dX12_draw_20 : decode cX12_draw 20 = .ok (.aload_n 0, 1) := by decide +kernel
theorem dX12_draw_21 : decode cX12_draw 21 = .ok (.getfield 197, 3) := by decide +kernel
theorem dX12_draw_24 : decode cX12_draw 24 = .ok (.ldc2_w 205, 3) := by decide +kernel
theorem dX12_draw_27 : decode cX12_draw 27 = .ok (.ldiv, 1) := by decide +kernel
theorem dX12_draw_28 : decode cX12_draw 28 = .ok (.iload_n 1, 1) := by decide +kernel
theorem dX12_draw_29 : decode cX12_draw 29 = .ok (.i2l, 1) := by decide +kernel
theorem dX12_draw_30 : decode cX12_draw 30 = .ok (.lrem, 1) := by decide +kernel
theorem dX12_draw_31 : decode cX12_draw 31 = .ok (.l2i, 1) := by decide +kernel
theorem dX12_draw_32 : decode cX12_draw 32 = .ok (.ireturn, 1) := by decide +kernel
theorem dX12_traitsIn_0 : decode cX12_traitsIn 0 = .ok (.iload_n 0, 1) := by decide +kernel
theorem dX12_traitsIn_1 : decode cX12_traitsIn 1 = .ok (.iconst 0, 1) := by decide +kernel
theorem dX12_traitsIn_2 : decode cX12_traitsIn 2 = .ok (.invokestatic 121, 3) := by decide +kernel
theorem dX12_traitsIn_5 : decode cX12_traitsIn 5 = .ok (.iload_n 0, 1) := by decide +kernel
theorem dX12_traitsIn_6 : decode cX12_traitsIn 6 = .ok (.iconst 1, 1) := by decide +kernel
theorem dX12_traitsIn_7 : decode cX12_traitsIn 7 = .ok (.invokestatic 121, 3) := by decide +kernel
theorem dX12_traitsIn_10 : decode cX12_traitsIn 10 = .ok (.iadd, 1) := by decide +kernel
theorem dX12_traitsIn_11 : decode cX12_traitsIn 11 = .ok (.iload_n 0, 1) := by decide +kernel
theorem dX12_traitsIn_12 : decode cX12_traitsIn 12 = .ok (.iconst 2, 1) := by decide +kernel
theorem dX12_traitsIn_13 : decode cX12_traitsIn 13 = .ok (.invokestatic 121, 3) := by decide +kernel
theorem dX12_traitsIn_16 : decode cX12_traitsIn 16 = .ok (.iadd, 1) := by decide +kernel
theorem dX12_traitsIn_17 : decode cX12_traitsIn 17 = .ok (.ireturn, 1) := by decide +kernel
theorem dX12_yearsNow_0 : decode cX12_yearsNow 0 = .ok (.aload_n 0, 1) := by decide +kernel
theorem dX12_yearsNow_1 : decode cX12_yearsNow 1 = .ok (.iload_n 2, 1) := by decide +kernel
theorem dX12_yearsNow_2 : decode cX12_yearsNow 2 = .ok (.i2l, 1) := by decide +kernel
theorem dX12_yearsNow_3 : decode cX12_yearsNow 3 = .ok (.putfield 197, 3) := by decide +kernel
theorem dX12_yearsNow_6 : decode cX12_yearsNow 6 = .ok (.iconst 0, 1) := by decide +kernel
theorem dX12_yearsNow_7 : decode cX12_yearsNow 7 = .ok (.istore 4, 2) := by decide +kernel
theorem dX12_yearsNow_9 : decode cX12_yearsNow 9 = .ok (.iload 4, 2) := by decide +kernel
theorem dX12_yearsNow_11 : decode cX12_yearsNow 11 = .ok (.aload_n 0, 1) := by decide +kernel
theorem dX12_yearsNow_12 : decode cX12_yearsNow 12 = .ok (.getfield 115, 3) := by decide +kernel
theorem dX12_yearsNow_15 : decode cX12_yearsNow 15 = .ok (.if_icmp .ge 22, 3) := by decide +kernel
theorem dX12_yearsNow_18 : decode cX12_yearsNow 18 = .ok (.aload_n 0, 1) := by decide +kernel
theorem dX12_yearsNow_19 : decode cX12_yearsNow 19 = .ok (.getfield 62, 3) := by decide +kernel
theorem dX12_yearsNow_22 : decode cX12_yearsNow 22 = .ok (.iload 4, 2) := by decide +kernel
theorem dX12_yearsNow_24 : decode cX12_yearsNow 24 = .ok (.aload_n 0, 1) := by decide +kernel
theorem dX12_yearsNow_25 : decode cX12_yearsNow 25 = .ok (.iload 4, 2) := by decide +kernel
theorem dX12_yearsNow_27 : decode cX12_yearsNow 27 = .ok (.invokevirtual 144, 3) := by decide +kernel
theorem dX12_yearsNow_30 : decode cX12_yearsNow 30 = .ok (.iastore, 1) := by decide +kernel
theorem dX12_yearsNow_31 : decode cX12_yearsNow 31 = .ok (.iinc 4 1, 3) := by decide +kernel
theorem dX12_yearsNow_34 : decode cX12_yearsNow 34 = .ok (.goto (-25), 3) := by decide +kernel
theorem dX12_yearsNow_37 : decode cX12_yearsNow 37 = .ok (.iconst 0, 1) := by decide +kernel
theorem dX12_yearsNow_38 : decode cX12_yearsNow 38 = .ok (.istore 4, 2) := by decide +kernel
theorem dX12_yearsNow_40 : decode cX12_yearsNow 40 = .ok (.iload 4, 2) := by decide +kernel
theorem dX12_yearsNow_42 : decode cX12_yearsNow 42 = .ok (.iload_n 1, 1) := by decide +kernel
theorem dX12_yearsNow_43 : decode cX12_yearsNow 43 = .ok (.if_icmp .ge 49, 3) := by decide +kernel
theorem dX12_yearsNow_46 : decode cX12_yearsNow 46 = .ok (.aload_n 0, 1) := by decide +kernel
theorem dX12_yearsNow_47 : decode cX12_yearsNow 47 = .ok (.aload_n 0, 1) := by decide +kernel
theorem dX12_yearsNow_48 : decode cX12_yearsNow 48 = .ok (.getfield 115, 3) := by decide +kernel
theorem dX12_yearsNow_51 : decode cX12_yearsNow 51 = .ok (.invokevirtual 207, 3) := by decide +kernel
theorem dX12_yearsNow_54 : decode cX12_yearsNow 54 = .ok (.istore 5, 2) := by decide +kernel
theorem dX12_yearsNow_56 : decode cX12_yearsNow 56 = .ok (.aload_n 0, 1) := by decide +kernel
theorem dX12_yearsNow_57 : decode cX12_yearsNow 57 = .ok (.aload_n 0, 1) := by decide +kernel
theorem dX12_yearsNow_58 : decode cX12_yearsNow 58 = .ok (.getfield 103, 3) := by decide +kernel
theorem dX12_yearsNow_61 : decode cX12_yearsNow 61 = .ok (.invokevirtual 207, 3) := by decide +kernel
theorem dX12_yearsNow_64 : decode cX12_yearsNow 64 = .ok (.istore 6, 2) := by decide +kernel
theorem dX12_yearsNow_66 : decode cX12_yearsNow 66 = .ok (.aload_n 0, 1) := by decide +kernel
theorem dX12_yearsNow_67 : decode cX12_yearsNow 67 = .ok (.getfield 62, 3) := by decide +kernel
theorem dX12_yearsNow_70 : decode cX12_yearsNow 70 = .ok (.iload 5, 2) := by decide +kernel
theorem dX12_yearsNow_72 : decode cX12_yearsNow 72 = .ok (.aload_n 0, 1) := by decide +kernel
theorem dX12_yearsNow_73 : decode cX12_yearsNow 73 = .ok (.iload 6, 2) := by decide +kernel
theorem dX12_yearsNow_75 : decode cX12_yearsNow 75 = .ok (.aload_n 0, 1) := by decide +kernel
theorem dX12_yearsNow_76 : decode cX12_yearsNow 76 = .ok (.getfield 62, 3) := by decide +kernel
theorem dX12_yearsNow_79 : decode cX12_yearsNow 79 = .ok (.iload 5, 2) := by decide +kernel
theorem dX12_yearsNow_81 : decode cX12_yearsNow 81 = .ok (.iaload, 1) := by decide +kernel
theorem dX12_yearsNow_82 : decode cX12_yearsNow 82 = .ok (.invokevirtual 141, 3) := by decide +kernel
theorem dX12_yearsNow_85 : decode cX12_yearsNow 85 = .ok (.iastore, 1) := by decide +kernel
theorem dX12_yearsNow_86 : decode cX12_yearsNow 86 = .ok (.iinc 4 1, 3) := by decide +kernel
theorem dX12_yearsNow_89 : decode cX12_yearsNow 89 = .ok (.goto (-49), 3) := by decide +kernel
theorem dX12_yearsNow_92 : decode cX12_yearsNow 92 = .ok (.iconst 0, 1) := by decide +kernel
theorem dX12_yearsNow_93 : decode cX12_yearsNow 93 = .ok (.istore 4, 2) := by decide +kernel
theorem dX12_yearsNow_95 : decode cX12_yearsNow 95 = .ok (.iconst 0, 1) := by decide +kernel
theorem dX12_yearsNow_96 : decode cX12_yearsNow 96 = .ok (.istore 5, 2) := by decide +kernel
theorem dX12_yearsNow_98 : decode cX12_yearsNow 98 = .ok (.iload 5, 2) := by decide +kernel
theorem dX12_yearsNow_100 : decode cX12_yearsNow 100 = .ok (.aload_n 0, 1) := by decide +kernel
theorem dX12_yearsNow_101 : decode cX12_yearsNow 101 = .ok (.getfield 115, 3) := by decide +kernel
theorem dX12_yearsNow_104 : decode cX12_yearsNow 104 = .ok (.if_icmp .ge 24, 3) := by decide +kernel
theorem dX12_yearsNow_107 : decode cX12_yearsNow 107 = .ok (.iload 4, 2) := by decide +kernel
theorem dX12_yearsNow_109 : decode cX12_yearsNow 109 = .ok (.aload_n 0, 1) := by decide +kernel
theorem dX12_yearsNow_110 : decode cX12_yearsNow 110 = .ok (.getfield 62, 3) := by decide +kernel
theorem dX12_yearsNow_113 : decode cX12_yearsNow 113 = .ok (.iload 5, 2) := by decide +kernel
theorem dX12_yearsNow_115 : decode cX12_yearsNow 115 = .ok (.iaload, 1) := by decide +kernel
theorem dX12_yearsNow_116 : decode cX12_yearsNow 116 = .ok (.invokestatic 210, 3) := by decide +kernel
theorem dX12_yearsNow_119 : decode cX12_yearsNow 119 = .ok (.iadd, 1) := by decide +kernel
theorem dX12_yearsNow_120 : decode cX12_yearsNow 120 = .ok (.istore 4, 2) := by decide +kernel
theorem dX12_yearsNow_122 : decode cX12_yearsNow 122 = .ok (.iinc 5 1, 3) := by decide +kernel
theorem dX12_yearsNow_125 : decode cX12_yearsNow 125 = .ok (.goto (-27), 3) := by decide +kernel
theorem dX12_yearsNow_128 : decode cX12_yearsNow 128 = .ok (.iload_n 3, 1) := by decide +kernel
theorem dX12_yearsNow_129 : decode cX12_yearsNow 129 = .ok (.ifCond .ne 12, 3) := by decide +kernel
theorem dX12_yearsNow_132 : decode cX12_yearsNow 132 = .ok (.aload_n 0, 1) := by decide +kernel
theorem dX12_yearsNow_133 : decode cX12_yearsNow 133 = .ok (.getfield 62, 3) := by decide +kernel
theorem dX12_yearsNow_136 : decode cX12_yearsNow 136 = .ok (.iconst 0, 1) := by decide +kernel
theorem dX12_yearsNow_137 : decode cX12_yearsNow 137 = .ok (.iaload, 1) := by decide +kernel
theorem dX12_yearsNow_138 : decode cX12_yearsNow 138 = .ok (.goto 18, 3) := by decide +kernel
theorem dX12_yearsNow_141 : decode cX12_yearsNow 141 = .ok (.iload_n 3, 1) := by decide +kernel
theorem dX12_yearsNow_142 : decode cX12_yearsNow 142 = .ok (.iconst 1, 1) := by decide +kernel
theorem dX12_yearsNow_143 : decode cX12_yearsNow 143 = .ok (.if_icmp .ne 8, 3) := by decide +kernel
theorem dX12_yearsNow_146 : decode cX12_yearsNow 146 = .ok (.iload 4, 2) := by decide +kernel
theorem dX12_yearsNow_148 : decode cX12_yearsNow 148 = .ok (.goto 8, 3) := by decide +kernel
theorem dX12_yearsNow_151 : decode cX12_yearsNow 151 = .ok (.aload_n 0, 1) := by decide +kernel
theorem dX12_yearsNow_152 : decode cX12_yearsNow 152 = .ok (.getfield 197, 3) := by decide +kernel
theorem dX12_yearsNow_155 : decode cX12_yearsNow 155 = .ok (.l2i, 1) := by decide +kernel
theorem dX12_yearsNow_156 : decode cX12_yearsNow 156 = .ok (.ireturn, 1) := by decide +kernel
theorem dX12_years_0 : decode cX12_years 0 = .ok (.iload_n 1, 1) := by decide +kernel
theorem dX12_years_1 : decode cX12_years 1 = .ok (.iconst 1, 1) := by decide +kernel
theorem dX12_years_2 : decode cX12_years 2 = .ok (.bipush 90, 2) := by decide +kernel
theorem dX12_years_4 : decode cX12_years 4 = .ok (.invokestatic 77, 3) := by decide +kernel
theorem dX12_years_7 : decode cX12_years 7 = .ok (.ifCond .eq 16, 3) := by decide +kernel
theorem dX12_years_10 : decode cX12_years 10 = .ok (.iload_n 2, 1) := by decide +kernel
theorem dX12_years_11 : decode cX12_years 11 = .ok (.ifCond .lt 12, 3) := by decide +kernel
theorem dX12_years_14 : decode cX12_years 14 = .ok (.iload_n 3, 1) := by decide +kernel
theorem dX12_years_15 : decode cX12_years 15 = .ok (.iconst 0, 1) := by decide +kernel
theorem dX12_years_16 : decode cX12_years 16 = .ok (.iconst 2, 1) := by decide +kernel
theorem dX12_years_17 : decode cX12_years 17 = .ok (.invokestatic 77, 3) := by decide +kernel
theorem dX12_years_20 : decode cX12_years 20 = .ok (.ifCond .ne 6, 3) := by decide +kernel
theorem dX12_years_23 : decode cX12_years 23 = .ok (.bipush (-102), 2) := by decide +kernel
theorem dX12_years_25 : decode cX12_years 25 = .ok (.ireturn, 1) := by decide +kernel
theorem dX12_years_26 : decode cX12_years 26 = .ok (.aload_n 0, 1) := by decide +kernel
theorem dX12_years_27 : decode cX12_years 27 = .ok (.getfield 115, 3) := by decide +kernel
theorem dX12_years_30 : decode cX12_years 30 = .ok (.ifCond .ne 8, 3) := by decide +kernel
theorem dX12_years_33 : decode cX12_years 33 = .ok (.bipush (-103), 2) := by decide +kernel
theorem dX12_years_35 : decode cX12_years 35 = .ok (.goto 10, 3) := by decide +kernel
theorem dX12_years_38 : decode cX12_years 38 = .ok (.aload_n 0, 1) := by decide +kernel
theorem dX12_years_39 : decode cX12_years 39 = .ok (.iload_n 1, 1) := by decide +kernel
theorem dX12_years_40 : decode cX12_years 40 = .ok (.iload_n 2, 1) := by decide +kernel
theorem dX12_years_41 : decode cX12_years 41 = .ok (.iload_n 3, 1) := by decide +kernel
theorem dX12_years_42 : decode cX12_years 42 = .ok (.invokevirtual 213, 3) := by decide +kernel
theorem dX12_years_45 : decode cX12_years 45 = .ok (.ireturn, 1) := by decide +kernel
theorem dX12_image_0 : decode cX12_image 0 = .ok (.aload_n 0, 1) := by decide +kernel
theorem dX12_image_1 : decode cX12_image 1 = .ok (.getfield 103, 3) := by decide +kernel
theorem dX12_image_4 : decode cX12_image 4 = .ok (.ifCond .ne 6, 3) := by decide +kernel
theorem dX12_image_7 : decode cX12_image 7 = .ok (.bipush (-103), 2) := by decide +kernel
theorem dX12_image_9 : decode cX12_image 9 = .ok (.ireturn, 1) := by decide +kernel
theorem dX12_image_10 : decode cX12_image 10 = .ok (.aload_n 0, 1) := by decide +kernel
theorem dX12_image_11 : decode cX12_image 11 = .ok (.iconst 1, 1) := by decide +kernel
theorem dX12_image_12 : decode cX12_image 12 = .ok (.putfield 216, 3) := by decide +kernel
theorem dX12_image_15 : decode cX12_image 15 = .ok (.aload_n 0, 1) := by decide +kernel
theorem dX12_image_16 : decode cX12_image 16 = .ok (.aload_n 0, 1) := by decide +kernel
theorem dX12_image_17 : decode cX12_image 17 = .ok (.getfield 112, 3) := by decide +kernel
theorem dX12_image_20 : decode cX12_image 20 = .ok (.putfield 219, 3) := by decide +kernel
theorem dX12_image_23 : decode cX12_image 23 = .ok (.aload_n 0, 1) := by decide +kernel
theorem dX12_image_24 : decode cX12_image 24 = .ok (.aload_n 0, 1) := by decide +kernel
theorem dX12_image_25 : decode cX12_image 25 = .ok (.getfield 115, 3) := by decide +kernel
theorem dX12_image_28 : decode cX12_image 28 = .ok (.putfield 222, 3) := by decide +kernel
theorem dX12_image_31 : decode cX12_image 31 = .ok (.aload_n 0, 1) := by decide +kernel
theorem dX12_image_32 : decode cX12_image 32 = .ok (.aload_n 0, 1) := by decide +kernel
theorem dX12_image_33 : decode cX12_image 33 = .ok (.getfield 118, 3) := by decide +kernel
theorem dX12_image_36 : decode cX12_image 36 = .ok (.putfield 225, 3) := by decide +kernel
theorem dX12_image_39 : decode cX12_image 39 = .ok (.iconst 0, 1) := by decide +kernel
theorem dX12_image_40 : decode cX12_image 40 = .ok (.istore_n 1, 1) := by decide +kernel
theorem dX12_image_41 : decode cX12_image 41 = .ok (.iload_n 1, 1) := by decide +kernel
theorem dX12_image_42 : decode cX12_image 42 = .ok (.iconst 4, 1) := by decide +kernel
theorem dX12_image_43 : decode cX12_image 43 = .ok (.if_icmp .ge 57, 3) := by decide +kernel
theorem dX12_image_46 : decode cX12_image 46 = .ok (.aload_n 0, 1) := by decide +kernel
theorem dX12_image_47 : decode cX12_image 47 = .ok (.getfield 65, 3) := by decide +kernel
theorem dX12_image_50 : decode cX12_image 50 = .ok (.iload_n 1, 1) := by decide +kernel
theorem dX12_image_51 : decode cX12_image 51 = .ok (.aload_n 0, 1) := by decide +kernel
theorem dX12_image_52 : decode cX12_image 52 = .ok (.getfield 22, 3) := by decide +kernel
theorem dX12_image_55 : decode cX12_image 55 = .ok (.iload_n 1, 1) := by decide +kernel
theorem dX12_image_56 : decode cX12_image 56 = .ok (.iaload, 1) := by decide +kernel
theorem dX12_image_57 : decode cX12_image 57 = .ok (.iastore, 1) := by decide +kernel
theorem dX12_image_58 : decode cX12_image 58 = .ok (.aload_n 0, 1) := by decide +kernel
theorem dX12_image_59 : decode cX12_image 59 = .ok (.getfield 68, 3) := by decide +kernel
theorem dX12_image_62 : decode cX12_image 62 = .ok (.iload_n 1, 1) := by decide +kernel
theorem dX12_image_63 : decode cX12_image 63 = .ok (.aload_n 0, 1) := by decide +kernel
theorem dX12_image_64 : decode cX12_image 64 = .ok (.getfield 25, 3) := by decide +kernel
theorem dX12_image_67 : decode cX12_image 67 = .ok (.iload_n 1, 1) := by decide +kernel
theorem dX12_image_68 : decode cX12_image 68 = .ok (.iaload, 1) := by decide +kernel
theorem dX12_image_69 : decode cX12_image 69 = .ok (.iastore, 1) := by decide +kernel
theorem dX12_image_70 : decode cX12_image 70 = .ok (.aload_n 0, 1) := by decide +kernel
theorem dX12_image_71 : decode cX12_image 71 = .ok (.getfield 71, 3) := by decide +kernel
theorem dX12_image_74 : decode cX12_image 74 = .ok (.iload_n 1, 1) := by decide +kernel
theorem dX12_image_75 : decode cX12_image 75 = .ok (.aload_n 0, 1) := by decide +kernel
theorem dX12_image_76 : decode cX12_image 76 = .ok (.getfield 28, 3) := by decide +kernel
theorem dX12_image_79 : decode cX12_image 79 = .ok (.iload_n 1, 1) := by decide +kernel
theorem dX12_image_80 : decode cX12_image 80 = .ok (.iaload, 1) := by decide +kernel
theorem dX12_image_81 : decode cX12_image 81 = .ok (.iastore, 1) := by decide +kernel
theorem dX12_image_82 : decode cX12_image 82 = .ok (.aload_n 0, 1) := by decide +kernel
theorem dX12_image_83 : decode cX12_image 83 = .ok (.getfield 74, 3) := by decide +kernel
theorem dX12_image_86 : decode cX12_image 86 = .ok (.iload_n 1, 1) := by decide +kernel
theorem dX12_image_87 : decode cX12_image 87 = .ok (.aload_n 0, 1) := by decide +kernel
theorem dX12_image_88 : decode cX12_image 88 = .ok (.getfield 31, 3) := by decide +kernel
theorem dX12_image_91 : decode cX12_image 91 = .ok (.iload_n 1, 1) := by decide +kernel
theorem dX12_image_92 : decode cX12_image 92 = .ok (.iaload, 1) := by decide +kernel
theorem dX12_image_93 : decode cX12_image 93 = .ok (.iastore, 1) := by decide +kernel
theorem dX12_image_94 : decode cX12_image 94 = .ok (.iinc 1 1, 3) := by decide +kernel
theorem dX12_image_97 : decode cX12_image 97 = .ok (.goto (-56), 3) := by decide +kernel
theorem dX12_image_100 : decode cX12_image 100 = .ok (.aload_n 0, 1) := by decide +kernel
theorem dX12_image_101 : decode cX12_image 101 = .ok (.getfield 118, 3) := by decide +kernel
theorem dX12_image_104 : decode cX12_image 104 = .ok (.ireturn, 1) := by decide +kernel
theorem dX12_restore_0 : decode cX12_restore 0 = .ok (.aload_n 0, 1) := by decide +kernel
theorem dX12_restore_1 : decode cX12_restore 1 = .ok (.getfield 216, 3) := by decide +kernel
theorem dX12_restore_4 : decode cX12_restore 4 = .ok (.ifCond .eq 14, 3) := by decide +kernel
theorem dX12_restore_7 : decode cX12_restore 7 = .ok (.aload_n 0, 1) := by decide +kernel
theorem dX12_restore_8 : decode cX12_restore 8 = .ok (.getfield 219, 3) := by decide +kernel
theorem dX12_restore_11 : decode cX12_restore 11 = .ok (.aload_n 0, 1) := by decide +kernel
theorem dX12_restore_12 : decode cX12_restore 12 = .ok (.getfield 112, 3) := by decide +kernel
theorem dX12_restore_15 : decode cX12_restore 15 = .ok (.if_icmp .eq 6, 3) := by decide +kernel
theorem dX12_restore_18 : decode cX12_restore 18 = .ok (.bipush (-103), 2) := by decide +kernel
theorem dX12_restore_20 : decode cX12_restore 20 = .ok (.ireturn, 1) := by decide +kernel
theorem dX12_restore_21 : decode cX12_restore 21 = .ok (.aload_n 0, 1) := by decide +kernel
theorem dX12_restore_22 : decode cX12_restore 22 = .ok (.aload_n 0, 1) := by decide +kernel
theorem dX12_restore_23 : decode cX12_restore 23 = .ok (.getfield 222, 3) := by decide +kernel
theorem dX12_restore_26 : decode cX12_restore 26 = .ok (.putfield 115, 3) := by decide +kernel
theorem dX12_restore_29 : decode cX12_restore 29 = .ok (.aload_n 0, 1) := by decide +kernel
theorem dX12_restore_30 : decode cX12_restore 30 = .ok (.aload_n 0, 1) := by decide +kernel
theorem dX12_restore_31 : decode cX12_restore 31 = .ok (.getfield 225, 3) := by decide +kernel
theorem dX12_restore_34 : decode cX12_restore 34 = .ok (.putfield 118, 3) := by decide +kernel
theorem dX12_restore_37 : decode cX12_restore 37 = .ok (.iconst 0, 1) := by decide +kernel
theorem dX12_restore_38 : decode cX12_restore 38 = .ok (.istore_n 1, 1) := by decide +kernel
theorem dX12_restore_39 : decode cX12_restore 39 = .ok (.iload_n 1, 1) := by decide +kernel
theorem dX12_restore_40 : decode cX12_restore 40 = .ok (.iconst 4, 1) := by decide +kernel
theorem dX12_restore_41 : decode cX12_restore 41 = .ok (.if_icmp .ge 57, 3) := by decide +kernel
theorem dX12_restore_44 : decode cX12_restore 44 = .ok (.aload_n 0, 1) := by decide +kernel
theorem dX12_restore_45 : decode cX12_restore 45 = .ok (.getfield 22, 3) := by decide +kernel
theorem dX12_restore_48 : decode cX12_restore 48 = .ok (.iload_n 1, 1) := by decide +kernel
theorem dX12_restore_49 : decode cX12_restore 49 = .ok (.aload_n 0, 1) := by decide +kernel
theorem dX12_restore_50 : decode cX12_restore 50 = .ok (.getfield 65, 3) := by decide +kernel
theorem dX12_restore_53 : decode cX12_restore 53 = .ok (.iload_n 1, 1) := by decide +kernel
theorem dX12_restore_54 : decode cX12_restore 54 = .ok (.iaload, 1) := by decide +kernel
theorem dX12_restore_55 : decode cX12_restore 55 = .ok (.iastore, 1) := by decide +kernel
theorem dX12_restore_56 : decode cX12_restore 56 = .ok (.aload_n 0, 1) := by decide +kernel
theorem dX12_restore_57 : decode cX12_restore 57 = .ok (.getfield 25, 3) := by decide +kernel
theorem dX12_restore_60 : decode cX12_restore 60 = .ok (.iload_n 1, 1) := by decide +kernel
theorem dX12_restore_61 : decode cX12_restore 61 = .ok (.aload_n 0, 1) := by decide +kernel
theorem dX12_restore_62 : decode cX12_restore 62 = .ok (.getfield 68, 3) := by decide +kernel
theorem dX12_restore_65 : decode cX12_restore 65 = .ok (.iload_n 1, 1) := by decide +kernel
theorem dX12_restore_66 : decode cX12_restore 66 = .ok (.iaload, 1) := by decide +kernel
theorem dX12_restore_67 : decode cX12_restore 67 = .ok (.iastore, 1) := by decide +kernel
theorem dX12_restore_68 : decode cX12_restore 68 = .ok (.aload_n 0, 1) := by decide +kernel
theorem dX12_restore_69 : decode cX12_restore 69 = .ok (.getfield 28, 3) := by decide +kernel
theorem dX12_restore_72 : decode cX12_restore 72 = .ok (.iload_n 1, 1) := by decide +kernel
theorem dX12_restore_73 : decode cX12_restore 73 = .ok (.aload_n 0, 1) := by decide +kernel
theorem dX12_restore_74 : decode cX12_restore 74 = .ok (.getfield 71, 3) := by decide +kernel
theorem dX12_restore_77 : decode cX12_restore 77 = .ok (.iload_n 1, 1) := by decide +kernel
theorem dX12_restore_78 : decode cX12_restore 78 = .ok (.iaload, 1) := by decide +kernel
theorem dX12_restore_79 : decode cX12_restore 79 = .ok (.iastore, 1) := by decide +kernel
theorem dX12_restore_80 : decode cX12_restore 80 = .ok (.aload_n 0, 1) := by decide +kernel
theorem dX12_restore_81 : decode cX12_restore 81 = .ok (.getfield 31, 3) := by decide +kernel
theorem dX12_restore_84 : decode cX12_restore 84 = .ok (.iload_n 1, 1) := by decide +kernel
theorem dX12_restore_85 : decode cX12_restore 85 = .ok (.aload_n 0, 1) := by decide +kernel
theorem dX12_restore_86 : decode cX12_restore 86 = .ok (.getfield 74, 3) := by decide +kernel
theorem dX12_restore_89 : decode cX12_restore 89 = .ok (.iload_n 1, 1) := by decide +kernel
theorem dX12_restore_90 : decode cX12_restore 90 = .ok (.iaload, 1) := by decide +kernel
theorem dX12_restore_91 : decode cX12_restore 91 = .ok (.iastore, 1) := by decide +kernel
theorem dX12_restore_92 : decode cX12_restore 92 = .ok (.iinc 1 1, 3) := by decide +kernel
theorem dX12_restore_95 : decode cX12_restore 95 = .ok (.goto (-56), 3) := by decide +kernel
theorem dX12_restore_98 : decode cX12_restore 98 = .ok (.aload_n 0, 1) := by decide +kernel
theorem dX12_restore_99 : decode cX12_restore 99 = .ok (.getfield 118, 3) := by decide +kernel
theorem dX12_restore_102 : decode cX12_restore 102 = .ok (.ireturn, 1) := by decide +kernel
theorem dX12_lentMany_0 : decode cX12_lentMany 0 = .ok (.iconst 0, 1) := by decide +kernel
theorem dX12_lentMany_1 : decode cX12_lentMany 1 = .ok (.istore_n 1, 1) := by decide +kernel
theorem dX12_lentMany_2 : decode cX12_lentMany 2 = .ok (.iconst 0, 1) := by decide +kernel
theorem dX12_lentMany_3 : decode cX12_lentMany 3 = .ok (.istore_n 2, 1) := by decide +kernel
theorem dX12_lentMany_4 : decode cX12_lentMany 4 = .ok (.iload_n 2, 1) := by decide +kernel
theorem dX12_lentMany_5 : decode cX12_lentMany 5 = .ok (.aload_n 0, 1) := by decide +kernel
theorem dX12_lentMany_6 : decode cX12_lentMany 6 = .ok (.getfield 115, 3) := by decide +kernel
theorem dX12_lentMany_9 : decode cX12_lentMany 9 = .ok (.if_icmp .ge 27, 3) := by decide +kernel
theorem dX12_lentMany_12 : decode cX12_lentMany 12 = .ok (.iload_n 1, 1) := by decide +kernel
theorem dX12_lentMany_13 : decode cX12_lentMany 13 = .ok (.aload_n 0, 1) := by decide +kernel
theorem dX12_lentMany_14 : decode cX12_lentMany 14 = .ok (.getfield 25, 3) := by decide +kernel
theorem dX12_lentMany_17 : decode cX12_lentMany 17 = .ok (.iload_n 2, 1) := by decide +kernel
theorem dX12_lentMany_18 : decode cX12_lentMany 18 = .ok (.iaload, 1) := by decide +kernel
theorem dX12_lentMany_19 : decode cX12_lentMany 19 = .ok (.iconst (-1), 1) := by decide +kernel
theorem dX12_lentMany_20 : decode cX12_lentMany 20 = .ok (.if_icmp .ne 7, 3) := by decide +kernel
theorem dX12_lentMany_23 : decode cX12_lentMany 23 = .ok (.iconst 0, 1) := by decide +kernel
theorem dX12_lentMany_24 : decode cX12_lentMany 24 = .ok (.goto 4, 3) := by decide +kernel
theorem dX12_lentMany_27 : decode cX12_lentMany 27 = .ok (.iconst 1, 1) := by decide +kernel
theorem dX12_lentMany_28 : decode cX12_lentMany 28 = .ok (.iadd, 1) := by decide +kernel
theorem dX12_lentMany_29 : decode cX12_lentMany 29 = .ok (.istore_n 1, 1) := by decide +kernel
theorem dX12_lentMany_30 : decode cX12_lentMany 30 = .ok (.iinc 2 1, 3) := by decide +kernel
theorem dX12_lentMany_33 : decode cX12_lentMany 33 = .ok (.goto (-29), 3) := by decide +kernel
theorem dX12_lentMany_36 : decode cX12_lentMany 36 = .ok (.iload_n 1, 1) := by decide +kernel
theorem dX12_lentMany_37 : decode cX12_lentMany 37 = .ok (.ireturn, 1) := by decide +kernel
theorem dX12_traitsAll_0 : decode cX12_traitsAll 0 = .ok (.iconst 0, 1) := by decide +kernel
theorem dX12_traitsAll_1 : decode cX12_traitsAll 1 = .ok (.istore_n 1, 1) := by decide +kernel
theorem dX12_traitsAll_2 : decode cX12_traitsAll 2 = .ok (.iconst 0, 1) := by decide +kernel
theorem dX12_traitsAll_3 : decode cX12_traitsAll 3 = .ok (.istore_n 2, 1) := by decide +kernel
theorem dX12_traitsAll_4 : decode cX12_traitsAll 4 = .ok (.iload_n 2, 1) := by decide +kernel
theorem dX12_traitsAll_5 : decode cX12_traitsAll 5 = .ok (.aload_n 0, 1) := by decide +kernel
theorem dX12_traitsAll_6 : decode cX12_traitsAll 6 = .ok (.getfield 115, 3) := by decide +kernel
theorem dX12_traitsAll_9 : decode cX12_traitsAll 9 = .ok (.if_icmp .ge 21, 3) := by decide +kernel
theorem dX12_traitsAll_12 : decode cX12_traitsAll 12 = .ok (.iload_n 1, 1) := by decide +kernel
theorem dX12_traitsAll_13 : decode cX12_traitsAll 13 = .ok (.aload_n 0, 1) := by decide +kernel
theorem dX12_traitsAll_14 : decode cX12_traitsAll 14 = .ok (.getfield 22, 3) := by decide +kernel
theorem dX12_traitsAll_17 : decode cX12_traitsAll 17 = .ok (.iload_n 2, 1) := by decide +kernel
theorem dX12_traitsAll_18 : decode cX12_traitsAll 18 = .ok (.iaload, 1) := by decide +kernel
theorem dX12_traitsAll_19 : decode cX12_traitsAll 19 = .ok (.invokestatic 210, 3) := by decide +kernel
theorem dX12_traitsAll_22 : decode cX12_traitsAll 22 = .ok (.iadd, 1) := by decide +kernel
theorem dX12_traitsAll_23 : decode cX12_traitsAll 23 = .ok (.istore_n 1, 1) := by decide +kernel
theorem dX12_traitsAll_24 : decode cX12_traitsAll 24 = .ok (.iinc 2 1, 3) := by decide +kernel
theorem dX12_traitsAll_27 : decode cX12_traitsAll 27 = .ok (.goto (-23), 3) := by decide +kernel
theorem dX12_traitsAll_30 : decode cX12_traitsAll 30 = .ok (.iload_n 1, 1) := by decide +kernel
theorem dX12_traitsAll_31 : decode cX12_traitsAll 31 = .ok (.ireturn, 1) := by decide +kernel
theorem dX12_howMany_0 : decode cX12_howMany 0 = .ok (.iload_n 1, 1) := by decide +kernel
theorem dX12_howMany_1 : decode cX12_howMany 1 = .ok (.tableswitch 87 0 7 #[47, 52, 57, 62, 67, 72, 77, 82], 47) := by decide +kernel
theorem dX12_howMany_48 : decode cX12_howMany 48 = .ok (.aload_n 0, 1) := by decide +kernel
theorem dX12_howMany_49 : decode cX12_howMany 49 = .ok (.getfield 103, 3) := by decide +kernel
theorem dX12_howMany_52 : decode cX12_howMany 52 = .ok (.ireturn, 1) := by decide +kernel
theorem dX12_howMany_53 : decode cX12_howMany 53 = .ok (.aload_n 0, 1) := by decide +kernel
theorem dX12_howMany_54 : decode cX12_howMany 54 = .ok (.getfield 115, 3) := by decide +kernel
theorem dX12_howMany_57 : decode cX12_howMany 57 = .ok (.ireturn, 1) := by decide +kernel
theorem dX12_howMany_58 : decode cX12_howMany 58 = .ok (.aload_n 0, 1) := by decide +kernel
theorem dX12_howMany_59 : decode cX12_howMany 59 = .ok (.invokevirtual 228, 3) := by decide +kernel
theorem dX12_howMany_62 : decode cX12_howMany 62 = .ok (.ireturn, 1) := by decide +kernel
theorem dX12_howMany_63 : decode cX12_howMany 63 = .ok (.aload_n 0, 1) := by decide +kernel
theorem dX12_howMany_64 : decode cX12_howMany 64 = .ok (.getfield 118, 3) := by decide +kernel
theorem dX12_howMany_67 : decode cX12_howMany 67 = .ok (.ireturn, 1) := by decide +kernel
theorem dX12_howMany_68 : decode cX12_howMany 68 = .ok (.aload_n 0, 1) := by decide +kernel
theorem dX12_howMany_69 : decode cX12_howMany 69 = .ok (.invokevirtual 231, 3) := by decide +kernel
theorem dX12_howMany_72 : decode cX12_howMany 72 = .ok (.ireturn, 1) := by decide +kernel
theorem dX12_howMany_73 : decode cX12_howMany 73 = .ok (.aload_n 0, 1) := by decide +kernel
theorem dX12_howMany_74 : decode cX12_howMany 74 = .ok (.getfield 81, 3) := by decide +kernel
theorem dX12_howMany_77 : decode cX12_howMany 77 = .ok (.ireturn, 1) := by decide +kernel
theorem dX12_howMany_78 : decode cX12_howMany 78 = .ok (.aload_n 0, 1) := by decide +kernel
theorem dX12_howMany_79 : decode cX12_howMany 79 = .ok (.getfield 112, 3) := by decide +kernel
theorem dX12_howMany_82 : decode cX12_howMany 82 = .ok (.ireturn, 1) := by decide +kernel
theorem dX12_howMany_83 : decode cX12_howMany 83 = .ok (.aload_n 0, 1) := by decide +kernel
theorem dX12_howMany_84 : decode cX12_howMany 84 = .ok (.getfield 189, 3) := by decide +kernel
theorem dX12_howMany_87 : decode cX12_howMany 87 = .ok (.ireturn, 1) := by decide +kernel
theorem dX12_howMany_88 : decode cX12_howMany 88 = .ok (.bipush (-102), 2) := by decide +kernel
theorem dX12_howMany_90 : decode cX12_howMany 90 = .ok (.ireturn, 1) := by decide +kernel
theorem dX12_count_0 : decode cX12_count 0 = .ok (.aload_n 0, 1) := by decide +kernel
theorem dX12_count_1 : decode cX12_count 1 = .ok (.iload_n 1, 1) := by decide +kernel
theorem dX12_count_2 : decode cX12_count 2 = .ok (.invokevirtual 234, 3) := by decide +kernel
theorem dX12_count_5 : decode cX12_count 5 = .ok (.ireturn, 1) := by decide +kernel
theorem dX12_mix_0 : decode cX12_mix 0 = .ok (.aload_n 0, 1) := by decide +kernel
theorem dX12_mix_1 : decode cX12_mix 1 = .ok (.ldc2_w 237, 3) := by decide +kernel
theorem dX12_mix_4 : decode cX12_mix 4 = .ok (.aload_n 0, 1) := by decide +kernel
theorem dX12_mix_5 : decode cX12_mix 5 = .ok (.getfield 239, 3) := by decide +kernel
theorem dX12_mix_8 : decode cX12_mix 8 = .ok (.lmul, 1) := by decide +kernel
theorem dX12_mix_9 : decode cX12_mix 9 = .ok (.lload_n 1, 1) := by decide +kernel
theorem dX12_mix_10 : decode cX12_mix 10 = .ok (.ladd, 1) := by decide +kernel
theorem dX12_mix_11 : decode cX12_mix 11 = .ok (.putfield 239, 3) := by decide +kernel
theorem dX12_mix_14 : decode cX12_mix 14 = .ok (.return_, 1) := by decide +kernel
theorem dX12_mixThing_0 : decode cX12_mixThing 0 = .ok (.iconst 0, 1) := by decide +kernel
theorem dX12_mixThing_1 : decode cX12_mixThing 1 = .ok (.istore_n 2, 1) := by decide +kernel
theorem dX12_mixThing_2 : decode cX12_mixThing 2 = .ok (.iload_n 2, 1) := by decide +kernel
theorem dX12_mixThing_3 : decode cX12_mixThing 3 = .ok (.bipush 7, 2) := by decide +kernel
theorem dX12_mixThing_5 : decode cX12_mixThing 5 = .ok (.if_icmp .ge 20, 3) := by decide +kernel
theorem dX12_mixThing_8 : decode cX12_mixThing 8 = .ok (.aload_n 0, 1) := by decide +kernel
theorem dX12_mixThing_9 : decode cX12_mixThing 9 = .ok (.aload_n 0, 1) := by decide +kernel
theorem dX12_mixThing_10 : decode cX12_mixThing 10 = .ok (.iload_n 1, 1) := by decide +kernel
theorem dX12_mixThing_11 : decode cX12_mixThing 11 = .ok (.iload_n 2, 1) := by decide +kernel
theorem dX12_mixThing_12 : decode cX12_mixThing 12 = .ok (.invokevirtual 150, 3) := by decide +kernel
theorem dX12_mixThing_15 : decode cX12_mixThing 15 = .ok (.i2l, 1) := by decide +kernel
theorem dX12_mixThing_16 : decode cX12_mixThing 16 = .ok (.invokevirtual 242, 3) := by decide +kernel
theorem dX12_mixThing_19 : decode cX12_mixThing 19 = .ok (.iinc 2 1, 3) := by decide +kernel
theorem dX12_mixThing_22 : decode cX12_mixThing 22 = .ok (.goto (-20), 3) := by decide +kernel
theorem dX12_mixThing_25 : decode cX12_mixThing 25 = .ok (.aload_n 0, 1) := by decide +kernel
theorem dX12_mixThing_26 : decode cX12_mixThing 26 = .ok (.aload_n 0, 1) := by decide +kernel
theorem dX12_mixThing_27 : decode cX12_mixThing 27 = .ok (.iload_n 1, 1) := by decide +kernel
theorem dX12_mixThing_28 : decode cX12_mixThing 28 = .ok (.invokevirtual 165, 3) := by decide +kernel
theorem dX12_mixThing_31 : decode cX12_mixThing 31 = .ok (.i2l, 1) := by decide +kernel
theorem dX12_mixThing_32 : decode cX12_mixThing 32 = .ok (.invokevirtual 242, 3) := by decide +kernel
theorem dX12_mixThing_35 : decode cX12_mixThing 35 = .ok (.iconst 0, 1) := by decide +kernel
theorem dX12_mixThing_36 : decode cX12_mixThing 36 = .ok (.istore_n 2, 1) := by decide +kernel
theorem dX12_mixThing_37 : decode cX12_mixThing 37 = .ok (.iload_n 2, 1) := by decide +kernel
theorem dX12_mixThing_38 : decode cX12_mixThing 38 = .ok (.iconst 4, 1) := by decide +kernel
theorem dX12_mixThing_39 : decode cX12_mixThing 39 = .ok (.if_icmp .ge 21, 3) := by decide +kernel
theorem dX12_mixThing_42 : decode cX12_mixThing 42 = .ok (.aload_n 0, 1) := by decide +kernel
theorem dX12_mixThing_43 : decode cX12_mixThing 43 = .ok (.aload_n 0, 1) := by decide +kernel
theorem dX12_mixThing_44 : decode cX12_mixThing 44 = .ok (.iload_n 1, 1) := by decide +kernel
theorem dX12_mixThing_45 : decode cX12_mixThing 45 = .ok (.iconst 0, 1) := by decide +kernel
theorem dX12_mixThing_46 : decode cX12_mixThing 46 = .ok (.iload_n 2, 1) := by decide +kernel
theorem dX12_mixThing_47 : decode cX12_mixThing 47 = .ok (.invokevirtual 162, 3) := by decide +kernel
theorem dX12_mixThing_50 : decode cX12_mixThing 50 = .ok (.i2l, 1) := by decide +kernel
theorem dX12_mixThing_51 : decode cX12_mixThing 51 = .ok (.invokevirtual 242, 3) := by decide +kernel
theorem dX12_mixThing_54 : decode cX12_mixThing 54 = .ok (.iinc 2 1, 3) := by decide +kernel
theorem dX12_mixThing_57 : decode cX12_mixThing 57 = .ok (.goto (-20), 3) := by decide +kernel
theorem dX12_mixThing_60 : decode cX12_mixThing 60 = .ok (.return_, 1) := by decide +kernel
theorem dX12_digest_0 : decode cX12_digest 0 = .ok (.aload_n 0, 1) := by decide +kernel
theorem dX12_digest_1 : decode cX12_digest 1 = .ok (.ldc2_w 246, 3) := by decide +kernel
theorem dX12_digest_4 : decode cX12_digest 4 = .ok (.putfield 239, 3) := by decide +kernel
theorem dX12_digest_7 : decode cX12_digest 7 = .ok (.iconst 0, 1) := by decide +kernel
theorem dX12_digest_8 : decode cX12_digest 8 = .ok (.istore_n 1, 1) := by decide +kernel
theorem dX12_digest_9 : decode cX12_digest 9 = .ok (.iload_n 1, 1) := by decide +kernel
theorem dX12_digest_10 : decode cX12_digest 10 = .ok (.aload_n 0, 1) := by decide +kernel
theorem dX12_digest_11 : decode cX12_digest 11 = .ok (.getfield 103, 3) := by decide +kernel
theorem dX12_digest_14 : decode cX12_digest 14 = .ok (.if_icmp .ge 34, 3) := by decide +kernel
theorem dX12_digest_17 : decode cX12_digest 17 = .ok (.iconst 0, 1) := by decide +kernel
theorem dX12_digest_18 : decode cX12_digest 18 = .ok (.istore_n 2, 1) := by decide +kernel
theorem dX12_digest_19 : decode cX12_digest 19 = .ok (.iload_n 2, 1) := by decide +kernel
theorem dX12_digest_20 : decode cX12_digest 20 = .ok (.bipush 6, 2) := by decide +kernel
theorem dX12_digest_22 : decode cX12_digest 22 = .ok (.if_icmp .ge 20, 3) := by decide +kernel
theorem dX12_digest_25 : decode cX12_digest 25 = .ok (.aload_n 0, 1) := by decide +kernel
theorem dX12_digest_26 : decode cX12_digest 26 = .ok (.aload_n 0, 1) := by decide +kernel
theorem dX12_digest_27 : decode cX12_digest 27 = .ok (.iload_n 1, 1) := by decide +kernel
theorem dX12_digest_28 : decode cX12_digest 28 = .ok (.iload_n 2, 1) := by decide +kernel
theorem dX12_digest_29 : decode cX12_digest 29 = .ok (.invokevirtual 135, 3) := by decide +kernel
theorem dX12_digest_32 : decode cX12_digest 32 = .ok (.i2l, 1) := by decide +kernel
theorem dX12_digest_33 : decode cX12_digest 33 = .ok (.invokevirtual 242, 3) := by decide +kernel
theorem dX12_digest_36 : decode cX12_digest 36 = .ok (.iinc 2 1, 3) := by decide +kernel
theorem dX12_digest_39 : decode cX12_digest 39 = .ok (.goto (-20), 3) := by decide +kernel
theorem dX12_digest_42 : decode cX12_digest 42 = .ok (.iinc 1 1, 3) := by decide +kernel
theorem dX12_digest_45 : decode cX12_digest 45 = .ok (.goto (-36), 3) := by decide +kernel
theorem dX12_digest_48 : decode cX12_digest 48 = .ok (.iconst 0, 1) := by decide +kernel
theorem dX12_digest_49 : decode cX12_digest 49 = .ok (.istore_n 1, 1) := by decide +kernel
theorem dX12_digest_50 : decode cX12_digest 50 = .ok (.iload_n 1, 1) := by decide +kernel
theorem dX12_digest_51 : decode cX12_digest 51 = .ok (.aload_n 0, 1) := by decide +kernel
theorem dX12_digest_52 : decode cX12_digest 52 = .ok (.getfield 115, 3) := by decide +kernel
theorem dX12_digest_55 : decode cX12_digest 55 = .ok (.if_icmp .ge 14, 3) := by decide +kernel
theorem dX12_digest_58 : decode cX12_digest 58 = .ok (.aload_n 0, 1) := by decide +kernel
theorem dX12_digest_59 : decode cX12_digest 59 = .ok (.iload_n 1, 1) := by decide +kernel
theorem dX12_digest_60 : decode cX12_digest 60 = .ok (.invokevirtual 248, 3) := by decide +kernel
theorem dX12_digest_63 : decode cX12_digest 63 = .ok (.iinc 1 1, 3) := by decide +kernel
theorem dX12_digest_66 : decode cX12_digest 66 = .ok (.goto (-16), 3) := by decide +kernel
theorem dX12_digest_69 : decode cX12_digest 69 = .ok (.iconst 0, 1) := by decide +kernel
theorem dX12_digest_70 : decode cX12_digest 70 = .ok (.istore_n 1, 1) := by decide +kernel
theorem dX12_digest_71 : decode cX12_digest 71 = .ok (.iload_n 1, 1) := by decide +kernel
theorem dX12_digest_72 : decode cX12_digest 72 = .ok (.aload_n 0, 1) := by decide +kernel
theorem dX12_digest_73 : decode cX12_digest 73 = .ok (.getfield 81, 3) := by decide +kernel
theorem dX12_digest_76 : decode cX12_digest 76 = .ok (.if_icmp .ge 20, 3) := by decide +kernel
theorem dX12_digest_79 : decode cX12_digest 79 = .ok (.aload_n 0, 1) := by decide +kernel
theorem dX12_digest_80 : decode cX12_digest 80 = .ok (.aload_n 0, 1) := by decide +kernel
theorem dX12_digest_81 : decode cX12_digest 81 = .ok (.getfield 34, 3) := by decide +kernel
theorem dX12_digest_84 : decode cX12_digest 84 = .ok (.iload_n 1, 1) := by decide +kernel
theorem dX12_digest_85 : decode cX12_digest 85 = .ok (.baload, 1) := by decide +kernel
theorem dX12_digest_86 : decode cX12_digest 86 = .ok (.i2l, 1) := by decide +kernel
theorem dX12_digest_87 : decode cX12_digest 87 = .ok (.invokevirtual 242, 3) := by decide +kernel
theorem dX12_digest_90 : decode cX12_digest 90 = .ok (.iinc 1 1, 3) := by decide +kernel
theorem dX12_digest_93 : decode cX12_digest 93 = .ok (.goto (-22), 3) := by decide +kernel
theorem dX12_digest_96 : decode cX12_digest 96 = .ok (.iconst 0, 1) := by decide +kernel
theorem dX12_digest_97 : decode cX12_digest 97 = .ok (.istore_n 1, 1) := by decide +kernel
theorem dX12_digest_98 : decode cX12_digest 98 = .ok (.iload_n 1, 1) := by decide +kernel
theorem dX12_digest_99 : decode cX12_digest 99 = .ok (.bipush 8, 2) := by decide +kernel
theorem dX12_digest_101 : decode cX12_digest 101 = .ok (.if_icmp .ge 19, 3) := by decide +kernel
theorem dX12_digest_104 : decode cX12_digest 104 = .ok (.aload_n 0, 1) := by decide +kernel
theorem dX12_digest_105 : decode cX12_digest 105 = .ok (.aload_n 0, 1) := by decide +kernel
theorem dX12_digest_106 : decode cX12_digest 106 = .ok (.iload_n 1, 1) := by decide +kernel
theorem dX12_digest_107 : decode cX12_digest 107 = .ok (.invokevirtual 234, 3) := by decide +kernel
theorem dX12_digest_110 : decode cX12_digest 110 = .ok (.i2l, 1) := by decide +kernel
theorem dX12_digest_111 : decode cX12_digest 111 = .ok (.invokevirtual 242, 3) := by decide +kernel
theorem dX12_digest_114 : decode cX12_digest 114 = .ok (.iinc 1 1, 3) := by decide +kernel
theorem dX12_digest_117 : decode cX12_digest 117 = .ok (.goto (-19), 3) := by decide +kernel
theorem dX12_digest_120 : decode cX12_digest 120 = .ok (.aload_n 0, 1) := by decide +kernel
theorem dX12_digest_121 : decode cX12_digest 121 = .ok (.getfield 239, 3) := by decide +kernel
theorem dX12_digest_124 : decode cX12_digest 124 = .ok (.lreturn, 1) := by decide +kernel
theorem dJ6_bitCount_0f7a4_0 : decode cJ6_bitCount_0f7a4 0 = .ok (.iload_n 0, 1) := by decide +kernel
theorem dJ6_bitCount_0f7a4_1 : decode cJ6_bitCount_0f7a4 1 = .ok (.iload_n 0, 1) := by decide +kernel
theorem dJ6_bitCount_0f7a4_2 : decode cJ6_bitCount_0f7a4 2 = .ok (.iconst 1, 1) := by decide +kernel
theorem dJ6_bitCount_0f7a4_3 : decode cJ6_bitCount_0f7a4 3 = .ok (.iushr, 1) := by decide +kernel
theorem dJ6_bitCount_0f7a4_4 : decode cJ6_bitCount_0f7a4 4 = .ok (.ldc_w 265, 3) := by decide +kernel
theorem dJ6_bitCount_0f7a4_7 : decode cJ6_bitCount_0f7a4 7 = .ok (.iand, 1) := by decide +kernel
theorem dJ6_bitCount_0f7a4_8 : decode cJ6_bitCount_0f7a4 8 = .ok (.isub, 1) := by decide +kernel
theorem dJ6_bitCount_0f7a4_9 : decode cJ6_bitCount_0f7a4 9 = .ok (.istore_n 0, 1) := by decide +kernel
theorem dJ6_bitCount_0f7a4_10 : decode cJ6_bitCount_0f7a4 10 = .ok (.iload_n 0, 1) := by decide +kernel
theorem dJ6_bitCount_0f7a4_11 : decode cJ6_bitCount_0f7a4 11 = .ok (.ldc_w 266, 3) := by decide +kernel
theorem dJ6_bitCount_0f7a4_14 : decode cJ6_bitCount_0f7a4 14 = .ok (.iand, 1) := by decide +kernel
theorem dJ6_bitCount_0f7a4_15 : decode cJ6_bitCount_0f7a4 15 = .ok (.iload_n 0, 1) := by decide +kernel
theorem dJ6_bitCount_0f7a4_16 : decode cJ6_bitCount_0f7a4 16 = .ok (.iconst 2, 1) := by decide +kernel
theorem dJ6_bitCount_0f7a4_17 : decode cJ6_bitCount_0f7a4 17 = .ok (.iushr, 1) := by decide +kernel
theorem dJ6_bitCount_0f7a4_18 : decode cJ6_bitCount_0f7a4 18 = .ok (.ldc_w 266, 3) := by decide +kernel
theorem dJ6_bitCount_0f7a4_21 : decode cJ6_bitCount_0f7a4 21 = .ok (.iand, 1) := by decide +kernel
theorem dJ6_bitCount_0f7a4_22 : decode cJ6_bitCount_0f7a4 22 = .ok (.iadd, 1) := by decide +kernel
theorem dJ6_bitCount_0f7a4_23 : decode cJ6_bitCount_0f7a4 23 = .ok (.istore_n 0, 1) := by decide +kernel
theorem dJ6_bitCount_0f7a4_24 : decode cJ6_bitCount_0f7a4 24 = .ok (.iload_n 0, 1) := by decide +kernel
theorem dJ6_bitCount_0f7a4_25 : decode cJ6_bitCount_0f7a4 25 = .ok (.iload_n 0, 1) := by decide +kernel
theorem dJ6_bitCount_0f7a4_26 : decode cJ6_bitCount_0f7a4 26 = .ok (.iconst 4, 1) := by decide +kernel
theorem dJ6_bitCount_0f7a4_27 : decode cJ6_bitCount_0f7a4 27 = .ok (.iushr, 1) := by decide +kernel
theorem dJ6_bitCount_0f7a4_28 : decode cJ6_bitCount_0f7a4 28 = .ok (.iadd, 1) := by decide +kernel
theorem dJ6_bitCount_0f7a4_29 : decode cJ6_bitCount_0f7a4 29 = .ok (.ldc_w 267, 3) := by decide +kernel
theorem dJ6_bitCount_0f7a4_32 : decode cJ6_bitCount_0f7a4 32 = .ok (.iand, 1) := by decide +kernel
theorem dJ6_bitCount_0f7a4_33 : decode cJ6_bitCount_0f7a4 33 = .ok (.istore_n 0, 1) := by decide +kernel
theorem dJ6_bitCount_0f7a4_34 : decode cJ6_bitCount_0f7a4 34 = .ok (.iload_n 0, 1) := by decide +kernel
theorem dJ6_bitCount_0f7a4_35 : decode cJ6_bitCount_0f7a4 35 = .ok (.iload_n 0, 1) := by decide +kernel
theorem dJ6_bitCount_0f7a4_36 : decode cJ6_bitCount_0f7a4 36 = .ok (.bipush 8, 2) := by decide +kernel
theorem dJ6_bitCount_0f7a4_38 : decode cJ6_bitCount_0f7a4 38 = .ok (.iushr, 1) := by decide +kernel
theorem dJ6_bitCount_0f7a4_39 : decode cJ6_bitCount_0f7a4 39 = .ok (.iadd, 1) := by decide +kernel
theorem dJ6_bitCount_0f7a4_40 : decode cJ6_bitCount_0f7a4 40 = .ok (.istore_n 0, 1) := by decide +kernel
theorem dJ6_bitCount_0f7a4_41 : decode cJ6_bitCount_0f7a4 41 = .ok (.iload_n 0, 1) := by decide +kernel
theorem dJ6_bitCount_0f7a4_42 : decode cJ6_bitCount_0f7a4 42 = .ok (.iload_n 0, 1) := by decide +kernel
theorem dJ6_bitCount_0f7a4_43 : decode cJ6_bitCount_0f7a4 43 = .ok (.bipush 16, 2) := by decide +kernel
theorem dJ6_bitCount_0f7a4_45 : decode cJ6_bitCount_0f7a4 45 = .ok (.iushr, 1) := by decide +kernel
theorem dJ6_bitCount_0f7a4_46 : decode cJ6_bitCount_0f7a4 46 = .ok (.iadd, 1) := by decide +kernel
theorem dJ6_bitCount_0f7a4_47 : decode cJ6_bitCount_0f7a4 47 = .ok (.istore_n 0, 1) := by decide +kernel
theorem dJ6_bitCount_0f7a4_48 : decode cJ6_bitCount_0f7a4 48 = .ok (.iload_n 0, 1) := by decide +kernel
theorem dJ6_bitCount_0f7a4_49 : decode cJ6_bitCount_0f7a4 49 = .ok (.bipush 63, 2) := by decide +kernel
theorem dJ6_bitCount_0f7a4_51 : decode cJ6_bitCount_0f7a4 51 = .ok (.iand, 1) := by decide +kernel
theorem dJ6_bitCount_0f7a4_52 : decode cJ6_bitCount_0f7a4 52 = .ok (.ireturn, 1) := by decide +kernel
theorem dJ9_min_7cf53_0 : decode cJ9_min_7cf53 0 = .ok (.iload_n 0, 1) := by decide +kernel
theorem dJ9_min_7cf53_1 : decode cJ9_min_7cf53 1 = .ok (.iload_n 1, 1) := by decide +kernel
theorem dJ9_min_7cf53_2 : decode cJ9_min_7cf53 2 = .ok (.if_icmp .gt 7, 3) := by decide +kernel
theorem dJ9_min_7cf53_5 : decode cJ9_min_7cf53 5 = .ok (.iload_n 0, 1) := by decide +kernel
theorem dJ9_min_7cf53_6 : decode cJ9_min_7cf53 6 = .ok (.goto 4, 3) := by decide +kernel
theorem dJ9_min_7cf53_9 : decode cJ9_min_7cf53 9 = .ok (.iload_n 1, 1) := by decide +kernel
theorem dJ9_min_7cf53_10 : decode cJ9_min_7cf53 10 = .ok (.ireturn, 1) := by decide +kernel
theorem dL_law_0 : decode cL_law 0 = .ok (.new 7, 3) := by decide +kernel
theorem dL_law_3 : decode cL_law 3 = .ok (.dup, 1) := by decide +kernel
theorem dL_law_4 : decode cL_law 4 = .ok (.invokespecial 9, 3) := by decide +kernel
theorem dL_law_7 : decode cL_law 7 = .ok (.astore_n 1, 1) := by decide +kernel
theorem dL_law_8 : decode cL_law 8 = .ok (.new 10, 3) := by decide +kernel
theorem dL_law_11 : decode cL_law 11 = .ok (.dup, 1) := by decide +kernel
theorem dL_law_12 : decode cL_law 12 = .ok (.invokespecial 12, 3) := by decide +kernel
theorem dL_law_15 : decode cL_law 15 = .ok (.astore_n 2, 1) := by decide +kernel
theorem dL_law_16 : decode cL_law 16 = .ok (.iconst 0, 1) := by decide +kernel
theorem dL_law_17 : decode cL_law 17 = .ok (.istore_n 3, 1) := by decide +kernel
theorem dL_law_18 : decode cL_law 18 = .ok (.iload_n 3, 1) := by decide +kernel
theorem dL_law_19 : decode cL_law 19 = .ok (.aload_n 0, 1) := by decide +kernel
theorem dL_law_20 : decode cL_law 20 = .ok (.arraylength, 1) := by decide +kernel
theorem dL_law_21 : decode cL_law 21 = .ok (.iconst 5, 1) := by decide +kernel
theorem dL_law_22 : decode cL_law 22 = .ok (.isub, 1) := by decide +kernel
theorem dL_law_23 : decode cL_law 23 = .ok (.if_icmp .gt 689, 3) := by decide +kernel
theorem dL_law_26 : decode cL_law 26 = .ok (.aload_n 0, 1) := by decide +kernel
theorem dL_law_27 : decode cL_law 27 = .ok (.iload_n 3, 1) := by decide +kernel
theorem dL_law_28 : decode cL_law 28 = .ok (.iaload, 1) := by decide +kernel
theorem dL_law_29 : decode cL_law 29 = .ok (.bipush 31, 2) := by decide +kernel
theorem dL_law_31 : decode cL_law 31 = .ok (.iand, 1) := by decide +kernel
theorem dL_law_32 : decode cL_law 32 = .ok (.tableswitch 674 0 20 #[100, 123, 136, 159, 172, 205, 238, 261, 294, 327, 340, 373, 416, 439, 482, 515, 568, 611, 624, 637, 660], 100) := by decide +kernel
theorem dL_law_132 : decode cL_law 132 = .ok (.aload_n 1, 1) := by decide +kernel
theorem dL_law_133 : decode cL_law 133 = .ok (.aload_n 0, 1) := by decide +kernel
theorem dL_law_134 : decode cL_law 134 = .ok (.iload_n 3, 1) := by decide +kernel
theorem dL_law_135 : decode cL_law 135 = .ok (.iconst 1, 1) := by decide +kernel
theorem dL_law_136 : decode cL_law 136 = .ok (.iadd, 1) := by decide +kernel
theorem dL_law_137 : decode cL_law 137 = .ok (.iaload, 1) := by decide +kernel
theorem dL_law_138 : decode cL_law 138 = .ok (.invokevirtual 13, 3) := by decide +kernel
theorem dL_law_141 : decode cL_law 141 = .ok (.aload_n 2, 1) := by decide +kernel
theorem dL_law_142 : decode cL_law 142 = .ok (.aload_n 0, 1) := by decide +kernel
theorem dL_law_143 : decode cL_law 143 = .ok (.iload_n 3, 1) := by decide +kernel
theorem dL_law_144 : decode cL_law 144 = .ok (.iconst 1, 1) := by decide +kernel
theorem dL_law_145 : decode cL_law 145 = .ok (.iadd, 1) := by decide +kernel
theorem dL_law_146 : decode cL_law 146 = .ok (.iaload, 1) := by decide +kernel
theorem dL_law_147 : decode cL_law 147 = .ok (.invokevirtual 17, 3) := by decide +kernel
theorem dL_law_150 : decode cL_law 150 = .ok (.if_icmp .eq 556, 3) := by decide +kernel
theorem dL_law_153 : decode cL_law 153 = .ok (.iconst 0, 1) := by decide +kernel
theorem dL_law_154 : decode cL_law 154 = .ok (.ireturn, 1) := by decide +kernel
theorem dL_law_155 : decode cL_law 155 = .ok (.aload_n 1, 1) := by decide +kernel
theorem dL_law_156 : decode cL_law 156 = .ok (.invokevirtual 18, 3) := by decide +kernel
theorem dL_law_159 : decode cL_law 159 = .ok (.aload_n 2, 1) := by decide +kernel
theorem dL_law_160 : decode cL_law 160 = .ok (.invokevirtual 22, 3) := by decide +kernel
theorem dL_law_163 : decode cL_law 163 = .ok (.if_icmp .eq 543, 3) := by decide +kernel
theorem dL_law_166 : decode cL_law 166 = .ok (.iconst 0, 1) := by decide +kernel
theorem dL_law_167 : decode cL_law 167 = .ok (.ireturn, 1) := by decide +kernel
theorem dL_law_168 : decode cL_law 168 = .ok (.aload_n 1, 1) := by decide +kernel
theorem dL_law_169 : decode cL_law 169 = .ok (.aload_n 0, 1) := by decide +kernel
theorem dL_law_170 : decode cL_law 170 = .ok (.iload_n 3, 1) := by decide +kernel
theorem dL_law_171 : decode cL_law 171 = .ok (.iconst 1, 1) := by decide +kernel
theorem dL_law_172 : decode cL_law 172 = .ok (.iadd, 1) := by decide +kernel
theorem dL_law_173 : decode cL_law 173 = .ok (.iaload, 1) := by decide +kernel
theorem dL_law_174 : decode cL_law 174 = .ok (.invokevirtual 23, 3) := by decide +kernel
theorem dL_law_177 : decode cL_law 177 = .ok (.aload_n 2, 1) := by decide +kernel
theorem dL_law_178 : decode cL_law 178 = .ok (.aload_n 0, 1) := by decide +kernel
theorem dL_law_179 : decode cL_law 179 = .ok (.iload_n 3, 1) := by decide +kernel
theorem dL_law_180 : decode cL_law 180 = .ok (.iconst 1, 1) := by decide +kernel
theorem dL_law_181 : decode cL_law 181 = .ok (.iadd, 1) := by decide +kernel
theorem dL_law_182 : decode cL_law 182 = .ok (.iaload, 1) := by decide +kernel
theorem dL_law_183 : decode cL_law 183 = .ok (.invokevirtual 26, 3) := by decide +kernel
theorem dL_law_186 : decode cL_law 186 = .ok (.if_icmp .eq 520, 3) := by decide +kernel
theorem dL_law_189 : decode cL_law 189 = .ok (.iconst 0, 1) := by decide +kernel
theorem dL_law_190 : decode cL_law 190 = .ok (.ireturn, 1) := by decide +kernel
theorem dL_law_191 : decode cL_law 191 = .ok (.aload_n 1, 1) := by decide +kernel
theorem dL_law_192 : decode cL_law 192 = .ok (.invokevirtual 27, 3) := by decide +kernel
theorem dL_law_195 : decode cL_law 195 = .ok (.aload_n 2, 1) := by decide +kernel
theorem dL_law_196 : decode cL_law 196 = .ok (.invokevirtual 30, 3) := by decide +kernel
theorem dL_law_199 : decode cL_law 199 = .ok (.if_icmp .eq 507, 3) := by decide +kernel
theorem dL_law_202 : decode cL_law 202 = .ok (.iconst 0, 1) := by decide +kernel
theorem dL_law_203 : decode cL_law 203 = .ok (.ireturn, 1) := by decide +kernel
theorem dL_law_204 : decode cL_law 204 = .ok (.aload_n 1, 1) := by decide +kernel
theorem dL_law_205 : decode cL_law 205 = .ok (.aload_n 0, 1) := by decide +kernel
theorem dL_law_206 : decode cL_law 206 = .ok (.iload_n 3, 1) := by decide +kernel
theorem dL_law_207 : decode cL_law 207 = .ok (.iconst 1, 1) := by decide +kernel
theorem dL_law_208 : decode cL_law 208 = .ok (.iadd, 1) := by decide +kernel
theorem dL_law_209 : decode cL_law 209 = .ok (.iaload, 1) := by decide +kernel
theorem dL_law_210 : decode cL_law 210 = .ok (.aload_n 0, 1) := by decide +kernel
theorem dL_law_211 : decode cL_law 211 = .ok (.iload_n 3, 1) := by decide +kernel
theorem dL_law_212 : decode cL_law 212 = .ok (.iconst 2, 1) := by decide +kernel
theorem dL_law_213 : decode cL_law 213 = .ok (.iadd, 1) := by decide +kernel
theorem dL_law_214 : decode cL_law 214 = .ok (.iaload, 1) := by decide +kernel
theorem dL_law_215 : decode cL_law 215 = .ok (.invokevirtual 31, 3) := by decide +kernel
theorem dL_law_218 : decode cL_law 218 = .ok (.aload_n 2, 1) := by decide +kernel
theorem dL_law_219 : decode cL_law 219 = .ok (.aload_n 0, 1) := by decide +kernel
theorem dL_law_220 : decode cL_law 220 = .ok (.iload_n 3, 1) := by decide +kernel
theorem dL_law_221 : decode cL_law 221 = .ok (.iconst 1, 1) := by decide +kernel
theorem dL_law_222 : decode cL_law 222 = .ok (.iadd, 1) := by decide +kernel
theorem dL_law_223 : decode cL_law 223 = .ok (.iaload, 1) := by decide +kernel
theorem dL_law_224 : decode cL_law 224 = .ok (.aload_n 0, 1) := by decide +kernel
theorem dL_law_225 : decode cL_law 225 = .ok (.iload_n 3, 1) := by decide +kernel
theorem dL_law_226 : decode cL_law 226 = .ok (.iconst 2, 1) := by decide +kernel
theorem dL_law_227 : decode cL_law 227 = .ok (.iadd, 1) := by decide +kernel
theorem dL_law_228 : decode cL_law 228 = .ok (.iaload, 1) := by decide +kernel
theorem dL_law_229 : decode cL_law 229 = .ok (.invokevirtual 35, 3) := by decide +kernel
theorem dL_law_232 : decode cL_law 232 = .ok (.if_icmp .eq 474, 3) := by decide +kernel
theorem dL_law_235 : decode cL_law 235 = .ok (.iconst 0, 1) := by decide +kernel
theorem dL_law_236 : decode cL_law 236 = .ok (.ireturn, 1) := by decide +kernel
theorem dL_law_237 : decode cL_law 237 = .ok (.aload_n 1, 1) := by decide +kernel
theorem dL_law_238 : decode cL_law 238 = .ok (.aload_n 0, 1) := by decide +kernel
theorem dL_law_239 : decode cL_law 239 = .ok (.iload_n 3, 1) := by decide +kernel
theorem dL_law_240 : decode cL_law 240 = .ok (.iconst 1, 1) := by decide +kernel
theorem dL_law_241 : decode cL_law 241 = .ok (.iadd, 1) := by decide +kernel
theorem dL_law_242 : decode cL_law 242 = .ok (.iaload, 1) := by decide +kernel
theorem dL_law_243 : decode cL_law 243 = .ok (.aload_n 0, 1) := by decide +kernel
theorem dL_law_244 : decode cL_law 244 = .ok (.iload_n 3, 1) := by decide +kernel
theorem dL_law_245 : decode cL_law 245 = .ok (.iconst 2, 1) := by decide +kernel
theorem dL_law_246 : decode cL_law 246 = .ok (.iadd, 1) := by decide +kernel
theorem dL_law_247 : decode cL_law 247 = .ok (.iaload, 1) := by decide +kernel
theorem dL_law_248 : decode cL_law 248 = .ok (.invokevirtual 36, 3) := by decide +kernel
theorem dL_law_251 : decode cL_law 251 = .ok (.aload_n 2, 1) := by decide +kernel
theorem dL_law_252 : decode cL_law 252 = .ok (.aload_n 0, 1) := by decide +kernel
theorem dL_law_253 : decode cL_law 253 = .ok (.iload_n 3, 1) := by decide +kernel
theorem dL_law_254 : decode cL_law 254 = .ok (.iconst 1, 1) := by decide +kernel
theorem dL_law_255 : decode cL_law 255 = .ok (.iadd, 1) := by decide +kernel
theorem dL_law_256 : decode cL_law 256 = .ok (.iaload, 1) := by decide +kernel
theorem dL_law_257 : decode cL_law 257 = .ok (.aload_n 0, 1) := by decide +kernel
theorem dL_law_258 : decode cL_law 258 = .ok (.iload_n 3, 1) := by decide +kernel
theorem dL_law_259 : decode cL_law 259 = .ok (.iconst 2, 1) := by decide +kernel
theorem dL_law_260 : decode cL_law 260 = .ok (.iadd, 1) := by decide +kernel
theorem dL_law_261 : decode cL_law 261 = .ok (.iaload, 1) := by decide +kernel
theorem dL_law_262 : decode cL_law 262 = .ok (.invokevirtual 39, 3) := by decide +kernel
theorem dL_law_265 : decode cL_law 265 = .ok (.if_icmp .eq 441, 3) := by decide +kernel
theorem dL_law_268 : decode cL_law 268 = .ok (.iconst 0, 1) := by decide +kernel
theorem dL_law_269 : decode cL_law 269 = .ok (.ireturn, 1) := by decide +kernel
theorem dL_law_270 : decode cL_law 270 = .ok (.aload_n 1, 1) := by decide +kernel
theorem dL_law_271 : decode cL_law 271 = .ok (.aload_n 0, 1) := by decide +kernel
theorem dL_law_272 : decode cL_law 272 = .ok (.iload_n 3, 1) := by decide +kernel
theorem dL_law_273 : decode cL_law 273 = .ok (.iconst 1, 1) := by decide +kernel
theorem dL_law_274 : decode cL_law 274 = .ok (.iadd, 1) := by decide +kernel
theorem dL_law_275 : decode cL_law 275 = .ok (.iaload, 1) := by decide +kernel
theorem dL_law_276 : decode cL_law 276 = .ok (.invokevirtual 40, 3) := by decide +kernel
theorem dL_law_279 : decode cL_law 279 = .ok (.aload_n 2, 1) := by decide +kernel
theorem dL_law_280 : decode cL_law 280 = .ok (.aload_n 0, 1) := by decide +kernel
theorem dL_law_281 : decode cL_law 281 = .ok (.iload_n 3, 1) := by decide +kernel
theorem dL_law_282 : decode cL_law 282 = .ok (.iconst 1, 1) := by decide +kernel
theorem dL_law_283 : decode cL_law 283 = .ok (.iadd, 1) := by decide +kernel
theorem dL_law_284 : decode cL_law 284 = .ok (.iaload, 1) := by decide +kernel
theorem dL_law_285 : decode cL_law 285 = .ok (.invokevirtual 43, 3) := by decide +kernel
theorem dL_law_288 : decode cL_law 288 = .ok (.if_icmp .eq 418, 3) := by decide +kernel
theorem dL_law_291 : decode cL_law 291 = .ok (.iconst 0, 1) := by decide +kernel
theorem dL_law_292 : decode cL_law 292 = .ok (.ireturn, 1) := by decide +kernel
theorem dL_law_293 : decode cL_law 293 = .ok (.aload_n 1, 1) := by decide +kernel
theorem dL_law_294 : decode cL_law 294 = .ok (.aload_n 0, 1) := by decide +kernel
theorem dL_law_295 : decode cL_law 295 = .ok (.iload_n 3, 1) := by decide +kernel
theorem dL_law_296 : decode cL_law 296 = .ok (.iconst 1, 1) := by decide +kernel
theorem dL_law_297 : decode cL_law 297 = .ok (.iadd, 1) := by decide +kernel
theorem dL_law_298 : decode cL_law 298 = .ok (.iaload, 1) := by decide +kernel
theorem dL_law_299 : decode cL_law 299 = .ok (.aload_n 0, 1) := by decide +kernel
theorem dL_law_300 : decode cL_law 300 = .ok (.iload_n 3, 1) := by decide +kernel
theorem dL_law_301 : decode cL_law 301 = .ok (.iconst 2, 1) := by decide +kernel
theorem dL_law_302 : decode cL_law 302 = .ok (.iadd, 1) := by decide +kernel
theorem dL_law_303 : decode cL_law 303 = .ok (.iaload, 1) := by decide +kernel
theorem dL_law_304 : decode cL_law 304 = .ok (.invokevirtual 44, 3) := by decide +kernel
theorem dL_law_307 : decode cL_law 307 = .ok (.aload_n 2, 1) := by decide +kernel
theorem dL_law_308 : decode cL_law 308 = .ok (.aload_n 0, 1) := by decide +kernel
theorem dL_law_309 : decode cL_law 309 = .ok (.iload_n 3, 1) := by decide +kernel
theorem dL_law_310 : decode cL_law 310 = .ok (.iconst 1, 1) := by decide +kernel
theorem dL_law_311 : decode cL_law 311 = .ok (.iadd, 1) := by decide +kernel
theorem dL_law_312 : decode cL_law 312 = .ok (.iaload, 1) := by decide +kernel
theorem dL_law_313 : decode cL_law 313 = .ok (.aload_n 0, 1) := by decide +kernel
theorem dL_law_314 : decode cL_law 314 = .ok (.iload_n 3, 1) := by decide +kernel
theorem dL_law_315 : decode cL_law 315 = .ok (.iconst 2, 1) := by decide +kernel
theorem dL_law_316 : decode cL_law 316 = .ok (.iadd, 1) := by decide +kernel
theorem dL_law_317 : decode cL_law 317 = .ok (.iaload, 1) := by decide +kernel
theorem dL_law_318 : decode cL_law 318 = .ok (.invokevirtual 47, 3) := by decide +kernel
theorem dL_law_321 : decode cL_law 321 = .ok (.if_icmp .eq 385, 3) := by decide +kernel
theorem dL_law_324 : decode cL_law 324 = .ok (.iconst 0, 1) := by decide +kernel
theorem dL_law_325 : decode cL_law 325 = .ok (.ireturn, 1) := by decide +kernel
theorem dL_law_326 : decode cL_law 326 = .ok (.aload_n 1, 1) := by decide +kernel
theorem dL_law_327 : decode cL_law 327 = .ok (.aload_n 0, 1) := by decide +kernel
theorem dL_law_328 : decode cL_law 328 = .ok (.iload_n 3, 1) := by decide +kernel
theorem dL_law_329 : decode cL_law 329 = .ok (.iconst 1, 1) := by decide +kernel
theorem dL_law_330 : decode cL_law 330 = .ok (.iadd, 1) := by decide +kernel
theorem dL_law_331 : decode cL_law 331 = .ok (.iaload, 1) := by decide +kernel
theorem dL_law_332 : decode cL_law 332 = .ok (.aload_n 0, 1) := by decide +kernel
theorem dL_law_333 : decode cL_law 333 = .ok (.iload_n 3, 1) := by decide +kernel
theorem dL_law_334 : decode cL_law 334 = .ok (.iconst 2, 1) := by decide +kernel
theorem dL_law_335 : decode cL_law 335 = .ok (.iadd, 1) := by decide +kernel
theorem dL_law_336 : decode cL_law 336 = .ok (.iaload, 1) := by decide +kernel
theorem dL_law_337 : decode cL_law 337 = .ok (.invokevirtual 48, 3) := by decide +kernel
theorem dL_law_340 : decode cL_law 340 = .ok (.aload_n 2, 1) := by decide +kernel
theorem dL_law_341 : decode cL_law 341 = .ok (.aload_n 0, 1) := by decide +kernel
theorem dL_law_342 : decode cL_law 342 = .ok (.iload_n 3, 1) := by decide +kernel
theorem dL_law_343 : decode cL_law 343 = .ok (.iconst 1, 1) := by decide +kernel
theorem dL_law_344 : decode cL_law 344 = .ok (.iadd, 1) := by decide +kernel
theorem dL_law_345 : decode cL_law 345 = .ok (.iaload, 1) := by decide +kernel
theorem dL_law_346 : decode cL_law 346 = .ok (.aload_n 0, 1) := by decide +kernel
theorem dL_law_347 : decode cL_law 347 = .ok (.iload_n 3, 1) := by decide +kernel
theorem dL_law_348 : decode cL_law 348 = .ok (.iconst 2, 1) := by decide +kernel
theorem dL_law_349 : decode cL_law 349 = .ok (.iadd, 1) := by decide +kernel
theorem dL_law_350 : decode cL_law 350 = .ok (.iaload, 1) := by decide +kernel
theorem dL_law_351 : decode cL_law 351 = .ok (.invokevirtual 51, 3) := by decide +kernel
theorem dL_law_354 : decode cL_law 354 = .ok (.if_icmp .eq 352, 3) := by decide +kernel
theorem dL_law_357 : decode cL_law 357 = .ok (.iconst 0, 1) := by decide +kernel
theorem dL_law_358 : decode cL_law 358 = .ok (.ireturn, 1) := by decide +kernel
theorem dL_law_359 : decode cL_law 359 = .ok (.aload_n 1, 1) := by decide +kernel
theorem dL_law_360 : decode cL_law 360 = .ok (.invokevirtual 52, 3) := by decide +kernel
theorem dL_law_363 : decode cL_law 363 = .ok (.aload_n 2, 1) := by decide +kernel
theorem dL_law_364 : decode cL_law 364 = .ok (.invokevirtual 55, 3) := by decide +kernel
theorem dL_law_367 : decode cL_law 367 = .ok (.if_icmp .eq 339, 3) := by decide +kernel
theorem dL_law_370 : decode cL_law 370 = .ok (.iconst 0, 1) := by decide +kernel
theorem dL_law_371 : decode cL_law 371 = .ok (.ireturn, 1) := by decide +kernel
theorem dL_law_372 : decode cL_law 372 = .ok (.aload_n 1, 1) := by decide +kernel
theorem dL_law_373 : decode cL_law 373 = .ok (.aload_n 0, 1) := by decide +kernel
theorem dL_law_374 : decode cL_law 374 = .ok (.iload_n 3, 1) := by decide +kernel
theorem dL_law_375 : decode cL_law 375 = .ok (.iconst 1, 1) := by decide +kernel
theorem dL_law_376 : decode cL_law 376 = .ok (.iadd, 1) := by decide +kernel
theorem dL_law_377 : decode cL_law 377 = .ok (.iaload, 1) := by decide +kernel
theorem dL_law_378 : decode cL_law 378 = .ok (.aload_n 0, 1) := by decide +kernel
theorem dL_law_379 : decode cL_law 379 = .ok (.iload_n 3, 1) := by decide +kernel
theorem dL_law_380 : decode cL_law 380 = .ok (.iconst 2, 1) := by decide +kernel
theorem dL_law_381 : decode cL_law 381 = .ok (.iadd, 1) := by decide +kernel
theorem dL_law_382 : decode cL_law 382 = .ok (.iaload, 1) := by decide +kernel
theorem dL_law_383 : decode cL_law 383 = .ok (.invokevirtual 56, 3) := by decide +kernel
theorem dL_law_386 : decode cL_law 386 = .ok (.aload_n 2, 1) := by decide +kernel
theorem dL_law_387 : decode cL_law 387 = .ok (.aload_n 0, 1) := by decide +kernel
theorem dL_law_388 : decode cL_law 388 = .ok (.iload_n 3, 1) := by decide +kernel
theorem dL_law_389 : decode cL_law 389 = .ok (.iconst 1, 1) := by decide +kernel
theorem dL_law_390 : decode cL_law 390 = .ok (.iadd, 1) := by decide +kernel
theorem dL_law_391 : decode cL_law 391 = .ok (.iaload, 1) := by decide +kernel
theorem dL_law_392 : decode cL_law 392 = .ok (.aload_n 0, 1) := by decide +kernel
theorem dL_law_393 : decode cL_law 393 = .ok (.iload_n 3, 1) := by decide +kernel
theorem dL_law_394 : decode cL_law 394 = .ok (.iconst 2, 1) := by decide +kernel
theorem dL_law_395 : decode cL_law 395 = .ok (.iadd, 1) := by decide +kernel
theorem dL_law_396 : decode cL_law 396 = .ok (.iaload, 1) := by decide +kernel
theorem dL_law_397 : decode cL_law 397 = .ok (.invokevirtual 59, 3) := by decide +kernel
theorem dL_law_400 : decode cL_law 400 = .ok (.if_icmp .eq 306, 3) := by decide +kernel
theorem dL_law_403 : decode cL_law 403 = .ok (.iconst 0, 1) := by decide +kernel
theorem dL_law_404 : decode cL_law 404 = .ok (.ireturn, 1) := by decide +kernel
theorem dL_law_405 : decode cL_law 405 = .ok (.aload_n 1, 1) := by decide +kernel
theorem dL_law_406 : decode cL_law 406 = .ok (.aload_n 0, 1) := by decide +kernel
theorem dL_law_407 : decode cL_law 407 = .ok (.iload_n 3, 1) := by decide +kernel
theorem dL_law_408 : decode cL_law 408 = .ok (.iconst 1, 1) := by decide +kernel
theorem dL_law_409 : decode cL_law 409 = .ok (.iadd, 1) := by decide +kernel
theorem dL_law_410 : decode cL_law 410 = .ok (.iaload, 1) := by decide +kernel
theorem dL_law_411 : decode cL_law 411 = .ok (.aload_n 0, 1) := by decide +kernel
theorem dL_law_412 : decode cL_law 412 = .ok (.iload_n 3, 1) := by decide +kernel
theorem dL_law_413 : decode cL_law 413 = .ok (.iconst 2, 1) := by decide +kernel
theorem dL_law_414 : decode cL_law 414 = .ok (.iadd, 1) := by decide +kernel
theorem dL_law_415 : decode cL_law 415 = .ok (.iaload, 1) := by decide +kernel
theorem dL_law_416 : decode cL_law 416 = .ok (.aload_n 0, 1) := by decide +kernel
theorem dL_law_417 : decode cL_law 417 = .ok (.iload_n 3, 1) := by decide +kernel
theorem dL_law_418 : decode cL_law 418 = .ok (.iconst 3, 1) := by decide +kernel
theorem dL_law_419 : decode cL_law 419 = .ok (.iadd, 1) := by decide +kernel
theorem dL_law_420 : decode cL_law 420 = .ok (.iaload, 1) := by decide +kernel
theorem dL_law_421 : decode cL_law 421 = .ok (.invokevirtual 60, 3) := by decide +kernel
theorem dL_law_424 : decode cL_law 424 = .ok (.aload_n 2, 1) := by decide +kernel
theorem dL_law_425 : decode cL_law 425 = .ok (.aload_n 0, 1) := by decide +kernel
theorem dL_law_426 : decode cL_law 426 = .ok (.iload_n 3, 1) := by decide +kernel
theorem dL_law_427 : decode cL_law 427 = .ok (.iconst 1, 1) := by decide +kernel
theorem dL_law_428 : decode cL_law 428 = .ok (.iadd, 1) := by decide +kernel
theorem dL_law_429 : decode cL_law 429 = .ok (.iaload, 1) := by decide +kernel
theorem dL_law_430 : decode cL_law 430 = .ok (.aload_n 0, 1) := by decide +kernel
theorem dL_law_431 : decode cL_law 431 = .ok (.iload_n 3, 1) := by decide +kernel
theorem dL_law_432 : decode cL_law 432 = .ok (.iconst 2, 1) := by decide +kernel
theorem dL_law_433 : decode cL_law 433 = .ok (.iadd, 1) := by decide +kernel
theorem dL_law_434 : decode cL_law 434 = .ok (.iaload, 1) := by decide +kernel
theorem dL_law_435 : decode cL_law 435 = .ok (.aload_n 0, 1) := by decide +kernel
theorem dL_law_436 : decode cL_law 436 = .ok (.iload_n 3, 1) := by decide +kernel
theorem dL_law_437 : decode cL_law 437 = .ok (.iconst 3, 1) := by decide +kernel
theorem dL_law_438 : decode cL_law 438 = .ok (.iadd, 1) := by decide +kernel
theorem dL_law_439 : decode cL_law 439 = .ok (.iaload, 1) := by decide +kernel
theorem dL_law_440 : decode cL_law 440 = .ok (.invokevirtual 64, 3) := by decide +kernel
theorem dL_law_443 : decode cL_law 443 = .ok (.if_icmp .eq 263, 3) := by decide +kernel
theorem dL_law_446 : decode cL_law 446 = .ok (.iconst 0, 1) := by decide +kernel
theorem dL_law_447 : decode cL_law 447 = .ok (.ireturn, 1) := by decide +kernel
theorem dL_law_448 : decode cL_law 448 = .ok (.aload_n 1, 1) := by decide +kernel
theorem dL_law_449 : decode cL_law 449 = .ok (.aload_n 0, 1) := by decide +kernel
theorem dL_law_450 : decode cL_law 450 = .ok (.iload_n 3, 1) := by decide +kernel
theorem dL_law_451 : decode cL_law 451 = .ok (.iconst 1, 1) := by decide +kernel
theorem dL_law_452 : decode cL_law 452 = .ok (.iadd, 1) := by decide +kernel
theorem dL_law_453 : decode cL_law 453 = .ok (.iaload, 1) := by decide +kernel
theorem dL_law_454 : decode cL_law 454 = .ok (.invokevirtual 65, 3) := by decide +kernel
theorem dL_law_457 : decode cL_law 457 = .ok (.aload_n 2, 1) := by decide +kernel
theorem dL_law_458 : decode cL_law 458 = .ok (.aload_n 0, 1) := by decide +kernel
theorem dL_law_459 : decode cL_law 459 = .ok (.iload_n 3, 1) := by decide +kernel
theorem dL_law_460 : decode cL_law 460 = .ok (.iconst 1, 1) := by decide +kernel
theorem dL_law_461 : decode cL_law 461 = .ok (.iadd, 1) := by decide +kernel
theorem dL_law_462 : decode cL_law 462 = .ok (.iaload, 1) := by decide +kernel
theorem dL_law_463 : decode cL_law 463 = .ok (.invokevirtual 68, 3) := by decide +kernel
theorem dL_law_466 : decode cL_law 466 = .ok (.if_icmp .eq 240, 3) := by decide +kernel
theorem dL_law_469 : decode cL_law 469 = .ok (.iconst 0, 1) := by decide +kernel
theorem dL_law_470 : decode cL_law 470 = .ok (.ireturn, 1) := by decide +kernel
theorem dL_law_471 : decode cL_law 471 = .ok (.aload_n 1, 1) := by decide +kernel
theorem dL_law_472 : decode cL_law 472 = .ok (.aload_n 0, 1) := by decide +kernel
theorem dL_law_473 : decode cL_law 473 = .ok (.iload_n 3, 1) := by decide +kernel
theorem dL_law_474 : decode cL_law 474 = .ok (.iconst 1, 1) := by decide +kernel
theorem dL_law_475 : decode cL_law 475 = .ok (.iadd, 1) := by decide +kernel
theorem dL_law_476 : decode cL_law 476 = .ok (.iaload, 1) := by decide +kernel
theorem dL_law_477 : decode cL_law 477 = .ok (.aload_n 0, 1) := by decide +kernel
theorem dL_law_478 : decode cL_law 478 = .ok (.iload_n 3, 1) := by decide +kernel
theorem dL_law_479 : decode cL_law 479 = .ok (.iconst 2, 1) := by decide +kernel
theorem dL_law_480 : decode cL_law 480 = .ok (.iadd, 1) := by decide +kernel
theorem dL_law_481 : decode cL_law 481 = .ok (.iaload, 1) := by decide +kernel
theorem dL_law_482 : decode cL_law 482 = .ok (.aload_n 0, 1) := by decide +kernel
theorem dL_law_483 : decode cL_law 483 = .ok (.iload_n 3, 1) := by decide +kernel
theorem dL_law_484 : decode cL_law 484 = .ok (.iconst 3, 1) := by decide +kernel
theorem dL_law_485 : decode cL_law 485 = .ok (.iadd, 1) := by decide +kernel
theorem dL_law_486 : decode cL_law 486 = .ok (.iaload, 1) := by decide +kernel
theorem dL_law_487 : decode cL_law 487 = .ok (.invokevirtual 69, 3) := by decide +kernel
theorem dL_law_490 : decode cL_law 490 = .ok (.aload_n 2, 1) := by decide +kernel
theorem dL_law_491 : decode cL_law 491 = .ok (.aload_n 0, 1) := by decide +kernel
theorem dL_law_492 : decode cL_law 492 = .ok (.iload_n 3, 1) := by decide +kernel
theorem dL_law_493 : decode cL_law 493 = .ok (.iconst 1, 1) := by decide +kernel
theorem dL_law_494 : decode cL_law 494 = .ok (.iadd, 1) := by decide +kernel
theorem dL_law_495 : decode cL_law 495 = .ok (.iaload, 1) := by decide +kernel
theorem dL_law_496 : decode cL_law 496 = .ok (.aload_n 0, 1) := by decide +kernel
theorem dL_law_497 : decode cL_law 497 = .ok (.iload_n 3, 1) := by decide +kernel
theorem dL_law_498 : decode cL_law 498 = .ok (.iconst 2, 1) := by decide +kernel
theorem dL_law_499 : decode cL_law 499 = .ok (.iadd, 1) := by decide +kernel
theorem dL_law_500 : decode cL_law 500 = .ok (.iaload, 1) := by decide +kernel
theorem dL_law_501 : decode cL_law 501 = .ok (.aload_n 0, 1) := by decide +kernel
theorem dL_law_502 : decode cL_law 502 = .ok (.iload_n 3, 1) := by decide +kernel
theorem dL_law_503 : decode cL_law 503 = .ok (.iconst 3, 1) := by decide +kernel
theorem dL_law_504 : decode cL_law 504 = .ok (.iadd, 1) := by decide +kernel
theorem dL_law_505 : decode cL_law 505 = .ok (.iaload, 1) := by decide +kernel
theorem dL_law_506 : decode cL_law 506 = .ok (.invokevirtual 72, 3) := by decide +kernel
theorem dL_law_509 : decode cL_law 509 = .ok (.if_icmp .eq 197, 3) := by decide +kernel
theorem dL_law_512 : decode cL_law 512 = .ok (.iconst 0, 1) := by decide +kernel
theorem dL_law_513 : decode cL_law 513 = .ok (.ireturn, 1) := by decide +kernel
theorem dL_law_514 : decode cL_law 514 = .ok (.aload_n 1, 1) := by decide +kernel
theorem dL_law_515 : decode cL_law 515 = .ok (.aload_n 0, 1) := by decide +kernel
theorem dL_law_516 : decode cL_law 516 = .ok (.iload_n 3, 1) := by decide +kernel
theorem dL_law_517 : decode cL_law 517 = .ok (.iconst 1, 1) := by decide +kernel
theorem dL_law_518 : decode cL_law 518 = .ok (.iadd, 1) := by decide +kernel
theorem dL_law_519 : decode cL_law 519 = .ok (.iaload, 1) := by decide +kernel
theorem dL_law_520 : decode cL_law 520 = .ok (.aload_n 0, 1) := by decide +kernel
theorem dL_law_521 : decode cL_law 521 = .ok (.iload_n 3, 1) := by decide +kernel
theorem dL_law_522 : decode cL_law 522 = .ok (.iconst 2, 1) := by decide +kernel
theorem dL_law_523 : decode cL_law 523 = .ok (.iadd, 1) := by decide +kernel
theorem dL_law_524 : decode cL_law 524 = .ok (.iaload, 1) := by decide +kernel
theorem dL_law_525 : decode cL_law 525 = .ok (.invokevirtual 73, 3) := by decide +kernel
theorem dL_law_528 : decode cL_law 528 = .ok (.aload_n 2, 1) := by decide +kernel
theorem dL_law_529 : decode cL_law 529 = .ok (.aload_n 0, 1) := by decide +kernel
theorem dL_law_530 : decode cL_law 530 = .ok (.iload_n 3, 1) := by decide +kernel
theorem dL_law_531 : decode cL_law 531 = .ok (.iconst 1, 1) := by decide +kernel
theorem dL_law_532 : decode cL_law 532 = .ok (.iadd, 1) := by decide +kernel
theorem dL_law_533 : decode cL_law 533 = .ok (.iaload, 1) := by decide +kernel
theorem dL_law_534 : decode cL_law 534 = .ok (.aload_n 0, 1) := by decide +kernel
theorem dL_law_535 : decode cL_law 535 = .ok (.iload_n 3, 1) := by decide +kernel
theorem dL_law_536 : decode cL_law 536 = .ok (.iconst 2, 1) := by decide +kernel
theorem dL_law_537 : decode cL_law 537 = .ok (.iadd, 1) := by decide +kernel
theorem dL_law_538 : decode cL_law 538 = .ok (.iaload, 1) := by decide +kernel
theorem dL_law_539 : decode cL_law 539 = .ok (.invokevirtual 76, 3) := by decide +kernel
theorem dL_law_542 : decode cL_law 542 = .ok (.if_icmp .eq 164, 3) := by decide +kernel
theorem dL_law_545 : decode cL_law 545 = .ok (.iconst 0, 1) := by decide +kernel
theorem dL_law_546 : decode cL_law 546 = .ok (.ireturn, 1) := by decide +kernel
theorem dL_law_547 : decode cL_law 547 = .ok (.aload_n 1, 1) := by decide +kernel
theorem dL_law_548 : decode cL_law 548 = .ok (.aload_n 0, 1) := by decide +kernel
theorem dL_law_549 : decode cL_law 549 = .ok (.iload_n 3, 1) := by decide +kernel
theorem dL_law_550 : decode cL_law 550 = .ok (.iconst 1, 1) := by decide +kernel
theorem dL_law_551 : decode cL_law 551 = .ok (.iadd, 1) := by decide +kernel
theorem dL_law_552 : decode cL_law 552 = .ok (.iaload, 1) := by decide +kernel
theorem dL_law_553 : decode cL_law 553 = .ok (.aload_n 0, 1) := by decide +kernel
theorem dL_law_554 : decode cL_law 554 = .ok (.iload_n 3, 1) := by decide +kernel
theorem dL_law_555 : decode cL_law 555 = .ok (.iconst 2, 1) := by decide +kernel
theorem dL_law_556 : decode cL_law 556 = .ok (.iadd, 1) := by decide +kernel
theorem dL_law_557 : decode cL_law 557 = .ok (.iaload, 1) := by decide +kernel
theorem dL_law_558 : decode cL_law 558 = .ok (.aload_n 0, 1) := by decide +kernel
theorem dL_law_559 : decode cL_law 559 = .ok (.iload_n 3, 1) := by decide +kernel
theorem dL_law_560 : decode cL_law 560 = .ok (.iconst 3, 1) := by decide +kernel
theorem dL_law_561 : decode cL_law 561 = .ok (.iadd, 1) := by decide +kernel
theorem dL_law_562 : decode cL_law 562 = .ok (.iaload, 1) := by decide +kernel
theorem dL_law_563 : decode cL_law 563 = .ok (.aload_n 0, 1) := by decide +kernel
theorem dL_law_564 : decode cL_law 564 = .ok (.iload_n 3, 1) := by decide +kernel
theorem dL_law_565 : decode cL_law 565 = .ok (.iconst 4, 1) := by decide +kernel
theorem dL_law_566 : decode cL_law 566 = .ok (.iadd, 1) := by decide +kernel
theorem dL_law_567 : decode cL_law 567 = .ok (.iaload, 1) := by decide +kernel
theorem dL_law_568 : decode cL_law 568 = .ok (.invokevirtual 77, 3) := by decide +kernel
theorem dL_law_571 : decode cL_law 571 = .ok (.aload_n 2, 1) := by decide +kernel
theorem dL_law_572 : decode cL_law 572 = .ok (.aload_n 0, 1) := by decide +kernel
theorem dL_law_573 : decode cL_law 573 = .ok (.iload_n 3, 1) := by decide +kernel
theorem dL_law_574 : decode cL_law 574 = .ok (.iconst 1, 1) := by decide +kernel
theorem dL_law_575 : decode cL_law 575 = .ok (.iadd, 1) := by decide +kernel
theorem dL_law_576 : decode cL_law 576 = .ok (.iaload, 1) := by decide +kernel
theorem dL_law_577 : decode cL_law 577 = .ok (.aload_n 0, 1) := by decide +kernel
theorem dL_law_578 : decode cL_law 578 = .ok (.iload_n 3, 1) := by decide +kernel
theorem dL_law_579 : decode cL_law 579 = .ok (.iconst 2, 1) := by decide +kernel
theorem dL_law_580 : decode cL_law 580 = .ok (.iadd, 1) := by decide +kernel
theorem dL_law_581 : decode cL_law 581 = .ok (.iaload, 1) := by decide +kernel
theorem dL_law_582 : decode cL_law 582 = .ok (.aload_n 0, 1) := by decide +kernel
theorem dL_law_583 : decode cL_law 583 = .ok (.iload_n 3, 1) := by decide +kernel
theorem dL_law_584 : decode cL_law 584 = .ok (.iconst 3, 1) := by decide +kernel
theorem dL_law_585 : decode cL_law 585 = .ok (.iadd, 1) := by decide +kernel
theorem dL_law_586 : decode cL_law 586 = .ok (.iaload, 1) := by decide +kernel
theorem dL_law_587 : decode cL_law 587 = .ok (.aload_n 0, 1) := by decide +kernel
theorem dL_law_588 : decode cL_law 588 = .ok (.iload_n 3, 1) := by decide +kernel
theorem dL_law_589 : decode cL_law 589 = .ok (.iconst 4, 1) := by decide +kernel
theorem dL_law_590 : decode cL_law 590 = .ok (.iadd, 1) := by decide +kernel
theorem dL_law_591 : decode cL_law 591 = .ok (.iaload, 1) := by decide +kernel
theorem dL_law_592 : decode cL_law 592 = .ok (.invokevirtual 81, 3) := by decide +kernel
theorem dL_law_595 : decode cL_law 595 = .ok (.if_icmp .eq 111, 3) := by decide +kernel
theorem dL_law_598 : decode cL_law 598 = .ok (.iconst 0, 1) := by decide +kernel
theorem dL_law_599 : decode cL_law 599 = .ok (.ireturn, 1) := by decide +kernel
theorem dL_law_600 : decode cL_law 600 = .ok (.aload_n 1, 1) := by decide +kernel
theorem dL_law_601 : decode cL_law 601 = .ok (.aload_n 0, 1) := by decide +kernel
theorem dL_law_602 : decode cL_law 602 = .ok (.iload_n 3, 1) := by decide +kernel
theorem dL_law_603 : decode cL_law 603 = .ok (.iconst 1, 1) := by decide +kernel
theorem dL_law_604 : decode cL_law 604 = .ok (.iadd, 1) := by decide +kernel
theorem dL_law_605 : decode cL_law 605 = .ok (.iaload, 1) := by decide +kernel
theorem dL_law_606 : decode cL_law 606 = .ok (.aload_n 0, 1) := by decide +kernel
theorem dL_law_607 : decode cL_law 607 = .ok (.iload_n 3, 1) := by decide +kernel
theorem dL_law_608 : decode cL_law 608 = .ok (.iconst 2, 1) := by decide +kernel
theorem dL_law_609 : decode cL_law 609 = .ok (.iadd, 1) := by decide +kernel
theorem dL_law_610 : decode cL_law 610 = .ok (.iaload, 1) := by decide +kernel
theorem dL_law_611 : decode cL_law 611 = .ok (.aload_n 0, 1) := by decide +kernel
theorem dL_law_612 : decode cL_law 612 = .ok (.iload_n 3, 1) := by decide +kernel
theorem dL_law_613 : decode cL_law 613 = .ok (.iconst 3, 1) := by decide +kernel
theorem dL_law_614 : decode cL_law 614 = .ok (.iadd, 1) := by decide +kernel
theorem dL_law_615 : decode cL_law 615 = .ok (.iaload, 1) := by decide +kernel
theorem dL_law_616 : decode cL_law 616 = .ok (.invokevirtual 82, 3) := by decide +kernel
theorem dL_law_619 : decode cL_law 619 = .ok (.aload_n 2, 1) := by decide +kernel
theorem dL_law_620 : decode cL_law 620 = .ok (.aload_n 0, 1) := by decide +kernel
theorem dL_law_621 : decode cL_law 621 = .ok (.iload_n 3, 1) := by decide +kernel
theorem dL_law_622 : decode cL_law 622 = .ok (.iconst 1, 1) := by decide +kernel
theorem dL_law_623 : decode cL_law 623 = .ok (.iadd, 1) := by decide +kernel
theorem dL_law_624 : decode cL_law 624 = .ok (.iaload, 1) := by decide +kernel
theorem dL_law_625 : decode cL_law 625 = .ok (.aload_n 0, 1) := by decide +kernel
theorem dL_law_626 : decode cL_law 626 = .ok (.iload_n 3, 1) := by decide +kernel
theorem dL_law_627 : decode cL_law 627 = .ok (.iconst 2, 1) := by decide +kernel
theorem dL_law_628 : decode cL_law 628 = .ok (.iadd, 1) := by decide +kernel
theorem dL_law_629 : decode cL_law 629 = .ok (.iaload, 1) := by decide +kernel
theorem dL_law_630 : decode cL_law 630 = .ok (.aload_n 0, 1) := by decide +kernel
theorem dL_law_631 : decode cL_law 631 = .ok (.iload_n 3, 1) := by decide +kernel
theorem dL_law_632 : decode cL_law 632 = .ok (.iconst 3, 1) := by decide +kernel
theorem dL_law_633 : decode cL_law 633 = .ok (.iadd, 1) := by decide +kernel
theorem dL_law_634 : decode cL_law 634 = .ok (.iaload, 1) := by decide +kernel
theorem dL_law_635 : decode cL_law 635 = .ok (.invokevirtual 85, 3) := by decide +kernel
theorem dL_law_638 : decode cL_law 638 = .ok (.if_icmp .eq 68, 3) := by decide +kernel
theorem dL_law_641 : decode cL_law 641 = .ok (.iconst 0, 1) := by decide +kernel
theorem dL_law_642 : decode cL_law 642 = .ok (.ireturn, 1) := by decide +kernel
theorem dL_law_643 : decode cL_law 643 = .ok (.aload_n 1, 1) := by decide +kernel
theorem dL_law_644 : decode cL_law 644 = .ok (.invokevirtual 86, 3) := by decide +kernel
theorem dL_law_647 : decode cL_law 647 = .ok (.aload_n 2, 1) := by decide +kernel
theorem dL_law_648 : decode cL_law 648 = .ok (.invokevirtual 89, 3) := by decide +kernel
theorem dL_law_651 : decode cL_law 651 = .ok (.if_icmp .eq 55, 3) := by decide +kernel
theorem dL_law_654 : decode cL_law 654 = .ok (.iconst 0, 1) := by decide +kernel
theorem dL_law_655 : decode cL_law 655 = .ok (.ireturn, 1) := by decide +kernel
theorem dL_law_656 : decode cL_law 656 = .ok (.aload_n 1, 1) := by decide +kernel
theorem dL_law_657 : decode cL_law 657 = .ok (.invokevirtual 90, 3) := by decide +kernel
theorem dL_law_660 : decode cL_law 660 = .ok (.aload_n 2, 1) := by decide +kernel
theorem dL_law_661 : decode cL_law 661 = .ok (.invokevirtual 93, 3) := by decide +kernel
theorem dL_law_664 : decode cL_law 664 = .ok (.if_icmp .eq 42, 3) := by decide +kernel
theorem dL_law_667 : decode cL_law 667 = .ok (.iconst 0, 1) := by decide +kernel
theorem dL_law_668 : decode cL_law 668 = .ok (.ireturn, 1) := by decide +kernel
theorem dL_law_669 : decode cL_law 669 = .ok (.aload_n 1, 1) := by decide +kernel
theorem dL_law_670 : decode cL_law 670 = .ok (.aload_n 0, 1) := by decide +kernel
theorem dL_law_671 : decode cL_law 671 = .ok (.iload_n 3, 1) := by decide +kernel
theorem dL_law_672 : decode cL_law 672 = .ok (.iconst 1, 1) := by decide +kernel
theorem dL_law_673 : decode cL_law 673 = .ok (.iadd, 1) := by decide +kernel
theorem dL_law_674 : decode cL_law 674 = .ok (.iaload, 1) := by decide +kernel
theorem dL_law_675 : decode cL_law 675 = .ok (.invokevirtual 94, 3) := by decide +kernel
theorem dL_law_678 : decode cL_law 678 = .ok (.aload_n 2, 1) := by decide +kernel
theorem dL_law_679 : decode cL_law 679 = .ok (.aload_n 0, 1) := by decide +kernel
theorem dL_law_680 : decode cL_law 680 = .ok (.iload_n 3, 1) := by decide +kernel
theorem dL_law_681 : decode cL_law 681 = .ok (.iconst 1, 1) := by decide +kernel
theorem dL_law_682 : decode cL_law 682 = .ok (.iadd, 1) := by decide +kernel
theorem dL_law_683 : decode cL_law 683 = .ok (.iaload, 1) := by decide +kernel
theorem dL_law_684 : decode cL_law 684 = .ok (.invokevirtual 97, 3) := by decide +kernel
theorem dL_law_687 : decode cL_law 687 = .ok (.if_icmp .eq 19, 3) := by decide +kernel
theorem dL_law_690 : decode cL_law 690 = .ok (.iconst 0, 1) := by decide +kernel
theorem dL_law_691 : decode cL_law 691 = .ok (.ireturn, 1) := by decide +kernel
theorem dL_law_692 : decode cL_law 692 = .ok (.aload_n 1, 1) := by decide +kernel
theorem dL_law_693 : decode cL_law 693 = .ok (.invokevirtual 98, 3) := by decide +kernel
theorem dL_law_696 : decode cL_law 696 = .ok (.aload_n 2, 1) := by decide +kernel
theorem dL_law_697 : decode cL_law 697 = .ok (.invokevirtual 102, 3) := by decide +kernel
theorem dL_law_700 : decode cL_law 700 = .ok (.lcmp, 1) := by decide +kernel
theorem dL_law_701 : decode cL_law 701 = .ok (.ifCond .eq 5, 3) := by decide +kernel
theorem dL_law_704 : decode cL_law 704 = .ok (.iconst 0, 1) := by decide +kernel
theorem dL_law_705 : decode cL_law 705 = .ok (.ireturn, 1) := by decide +kernel
theorem dL_law_706 : decode cL_law 706 = .ok (.iinc 3 5, 3) := by decide +kernel
theorem dL_law_709 : decode cL_law 709 = .ok (.goto (-691), 3) := by decide +kernel
theorem dL_law_712 : decode cL_law 712 = .ok (.iconst 1, 1) := by decide +kernel
theorem dL_law_713 : decode cL_law 713 = .ok (.ireturn, 1) := by decide +kernel
end
section
/-! the abstract store: the heap's size, and what its cells at and above G's base hold -/
abbrev aG : Type := va_G × Nat × (ClassId × ClassId × ClassId)
abbrev aS : Type := Nat × (Nat → Option va_E)
abbrev aX : Type := Program × Launch × Env × Room × State × MethodId × Array Value × List Frame × Method × Code × (State → Prop)
def gI (G : aG) : ClassId := G.2.2.1
def gB (G : aG) : ClassId := G.2.2.2.1
def gQ (G : aG) : ClassId := G.2.2.2.2
def aI (G : aG) (n : Nat) (f : Nat → Int32) : va_E := .inl (gI G, n, .inl f)
def aB (G : aG) (n : Nat) (f : Nat → Int32) : va_E := .inl (gB G, n, .inl f)
def aR (G : aG) (n : Nat) (f : Nat → Option Nat) : va_E := .inl (gQ G, n, .inr (.inr (.inr (.inr f))))
def aO (ci : Nat) (fs : List Value) : va_E := .inr (ci, fs)
def aSet (σ : aS) (a : Nat) (e : va_E) : aS := (σ.1, fun b => if b = a then some e else σ.2 b)
def aNew (σ : aS) (e : va_E) : aS := (σ.1 + 1, fun b => if b = σ.1 then some e else σ.2 b)
theorem aSet_s {σ : aS} {a : Nat} {e : va_E} : (aSet σ a e).2 a = some e := by simp [aSet]
theorem aSet_n {σ : aS} {a b : Nat} {e : va_E} (h : b ≠ a) : (aSet σ a e).2 b = σ.2 b := by simp [aSet, h]
theorem aNew_s {σ : aS} {e : va_E} : (aNew σ e).2 σ.1 = some e := by simp [aNew]
theorem aNew_n {σ : aS} {b : Nat} {e : va_E} (h : b ≠ σ.1) : (aNew σ e).2 b = σ.2 b := by simp [aNew, h]
def ncs : List (String × String) := [(RX0, RX4), (RX0, RX9), (RX0, RX6), (RX0, RX1), (RX4, RX9), (RX4, RX6), (RX4, RX1), (RX9, RX4), (RX9, RX6), (RX9, RX1), (RX6, RX4), (RX6, RX9), (RX6, RX1), (RX1, RX9), (RX1, RX6)]
def gtys (G : aG) : List (ClassId × FieldType) := [(gI G, .int), (gB G, .byte), (gQ G, .object RX0)]
def AGK (G : aG) (U : State) : Prop := va_K G.1 vwCl (gtys G) U ∧ (∀ q ∈ ncs, va_Nc q.1 q.2 U) ∧ ∀ w ∈ lw_u, spc w = true → va_Nw w U
theorem spc_use {w : Cond} (h : spc w = true) {A : Array Value} {U : State} (hz : va_Nw w U) : w.before A U = true := by
  cases w with
  | methodLinkNest => exact va_Nw.use rfl hz
  | fieldLinkNest => exact va_Nw.use rfl hz
  | castable => exact va_Nw.use rfl hz
  | arrayOver t =>
    cases t with
    | object C => exact va_AO.use hz
    | _ => simp [spc] at h
  | _ => simp [spc] at h
theorem spc_of {w : Cond} (h : spc w = true) {A : Array Value} {U : State} (hz : w.before A U = true) : va_Nw w U := by
  cases w with
  | methodLinkNest => exact va_Nw.of rfl hz
  | fieldLinkNest => exact va_Nw.of rfl hz
  | castable => exact va_Nw.of rfl hz
  | arrayOver t =>
    cases t with
    | object C => exact va_AO.of hz
    | _ => simp [spc] at h
  | _ => simp [spc] at h
theorem spc_same {w : Cond} (h : spc w = true) {u U : State} (hvm : u.vm = U.vm) (hz : va_Nw w u) : va_Nw w U := by
  cases w with
  | methodLinkNest => exact va_Nw.same rfl hvm hz
  | fieldLinkNest => exact va_Nw.same rfl hvm hz
  | castable => exact va_Nw.same rfl hvm hz
  | arrayOver t =>
    cases t with
    | object C => exact va_AO.moved (by rw [hvm]; exact Vm.Alike.refl _) hz
    | _ => simp [spc] at h
  | _ => simp [spc] at h
theorem AGK.same {G : aG} {u U : State} (hvm : u.vm = U.vm) (h : AGK G u) : AGK G U :=
  ⟨va_K.moved (by rw [hvm]; exact Vm.Alike.refl _) h.1, fun q hq => (h.2.1 q hq).moved (by rw [hvm]; exact Vm.Alike.refl _), fun w hw hs => spc_same hs hvm (h.2.2 w hw hs)⟩
theorem AGK.warm {G : aG} {s U : State} (hW : s.WarmedH U.vm) (h : AGK G s) : AGK G U := by
  refine ⟨va_K.moved hW.alike h.1, fun q hq => (h.2.1 q hq).moved hW.alike, fun w hw hs => ?_⟩
  have hz := h.2.2 w hw hs
  cases w with
  | methodLinkNest => exact va_Nw.warmM hW hz
  | fieldLinkNest => exact va_Nw.warmF hW hz
  | castable => exact va_Nw.warmC hW hz
  | arrayOver t =>
    cases t with
    | object C => exact va_AO.moved hW.alike hz
    | _ => simp [spc] at hs
  | _ => simp [spc] at hs
def AHP (G : aG) (σ : aS) (H : Heap) : Prop := H.size = σ.1 ∧ ∀ (a : Nat) (e : va_E), σ.2 a = some e → G.2.1 ≤ a ∧ va_at G.1 vwCl (a, e) H
abbrev aA (G : aG) : Nat → Prop := fun q => G.2.1 ≤ q
theorem AHP.set {G : aG} {σ : aS} {H H1 : Heap} {a : Nat} {e0 e : va_E} (h : AHP G σ H) (h0 : σ.2 a = some e0) (z : H1.size = H.size) (he : va_at G.1 vwCl (a, e) H1) (oq : ∀ q : Nat, q ≠ a → H1[q]? = H[q]?) : AHP G (aSet σ a e) H1 := by
  refine ⟨z.trans h.1, fun b x hx => ?_⟩
  by_cases hb : b = a
  · subst hb
    rw [aSet_s] at hx
    cases hx
    exact ⟨(h.2 b _ h0).1, he⟩
  · rw [aSet_n hb] at hx
    exact ⟨(h.2 b x hx).1, (h.2 b x hx).2.kept (oq b hb)⟩
theorem AHP.new {G : aG} {σ : aS} {H H1 : Heap} {e : va_E} (h : AHP G σ H) (hb : G.2.1 ≤ σ.1) (z : H1.size = H.size + 1) (he : va_at G.1 vwCl (H.size, e) H1) (oq : ∀ q : Nat, q < H.size → H1[q]? = H[q]?) : AHP G (aNew σ e) H1 := by
  refine ⟨by rw [z, h.1]; rfl, fun b x hx => ?_⟩
  by_cases hb' : b = σ.1
  · subst hb'
    rw [aNew_s] at hx
    cases hx
    exact ⟨hb, by rw [← h.1]; exact he⟩
  · rw [aNew_n hb'] at hx
    exact ⟨(h.2 b x hx).1, (h.2 b x hx).2.kept (oq b (h.2 b x hx).2.lt)⟩
/-- locals: what each holds, as far as it is known -/
def lgt : List (Option Value) → Nat → Option Value
  | [], _ => none
  | o :: _, 0 => o
  | _ :: t, i + 1 => lgt t i
def lst : List (Option Value) → Nat → Option Value → List (Option Value)
  | [], _, _ => []
  | _ :: t, 0, v => v :: t
  | o :: t, i + 1, v => o :: lst t i v
theorem lst_len : ∀ (lv : List (Option Value)) (i : Nat) (v : Option Value), (lst lv i v).length = lv.length
  | [], _, _ => rfl
  | _ :: _, 0, _ => rfl
  | _ :: t, i + 1, v => by simp [lst, lst_len t i v]
theorem lgt_lt : ∀ {lv : List (Option Value)} {i : Nat} {v : Value}, lgt lv i = some v → i < lv.length
  | [], _, _, h => by cases h
  | _ :: _, 0, _, _ => by simp
  | _ :: t, i + 1, _, h => by
    have := lgt_lt (lv := t) h
    simp only [List.length_cons]
    omega
theorem lgt_lst : ∀ (lv : List (Option Value)) (i j : Nat) (v : Option Value) (w : Value), lgt (lst lv i v) j = some w → (j = i ∧ v = some w) ∨ (j ≠ i ∧ lgt lv j = some w)
  | [], _, _, _, _, h => by cases h
  | _ :: _, 0, 0, _, _, h => .inl ⟨rfl, h⟩
  | _ :: _, 0, _ + 1, _, _, h => .inr ⟨by omega, h⟩
  | _ :: _, _ + 1, 0, _, _, h => .inr ⟨by omega, h⟩
  | _ :: t, i + 1, j + 1, v, w, h => by
    rcases lgt_lst t i j v w h with ⟨a, b⟩ | ⟨a, b⟩
    · exact .inl ⟨by omega, b⟩
    · exact .inr ⟨by omega, b⟩
/-- no long stands just ahead of local i -/
def lok (lv : List (Option Value)) (i : Nat) : Bool := match i with
  | 0 => true
  | j + 1 => match lgt lv j with
    | some (.long _) => false
    | some (.double _) => false
    | _ => true
def lpairs (lv : List (Option Value)) : List (Nat × Value) := (List.range lv.length).filterMap fun i => (lgt lv i).map fun v => (i, v)
theorem lpairs_mem {lv : List (Option Value)} {i : Nat} {v : Value} (h : lgt lv i = some v) : (i, v) ∈ lpairs lv :=
  List.mem_filterMap.mpr ⟨i, List.mem_range.mpr (lgt_lt h), by rw [h]; rfl⟩
theorem lpairs_of {lv : List (Option Value)} {q : Nat × Value} (h : q ∈ lpairs lv) : lgt lv q.1 = some q.2 := by
  obtain ⟨i, -, hi⟩ := List.mem_filterMap.mp h
  cases hg : lgt lv i with
  | none => rw [hg] at hi; cases hi
  | some v => rw [hg] at hi; cases hi; exact hg
def lo_has (ls : Array Slot) (lv : List (Option Value)) : Prop := lv_has ls lv.length (lpairs lv)
theorem lo_at {ls : Array Slot} {lv : List (Option Value)} (h : lo_has ls lv) {i : Nat} {v : Value} (hk : lgt lv i = some v) : ls[i]? = some (.val v) := h.2.2 (i, v) (lpairs_mem hk)
theorem lo_of {ls : Array Slot} {n : Nat} {l : List (Nat × Value)} (lv : List (Option Value)) (h : lv_has ls n l) (hn : lv.length = n) (hm : ∀ i v, lgt lv i = some v → (i, v) ∈ l) : lo_has ls lv := by
  subst hn
  exact ⟨h.1, h.2.1, fun q hq => h.2.2 q (hm q.1 q.2 (lpairs_of hq))⟩
theorem lo_st1 {ls : Array Slot} {lv : List (Option Value)} {i : Nat} {v : Value} (hc : v.category = 1) (hlt : i < lv.length) (hok : lok lv i = true) (h : lv_has ls lv.length ((i, v) :: (lpairs lv).filter (fun q => !(q.1 == i) && !(q.1 + 1 == i && q.2.category == 2)))) : lo_has ls (lst lv i (some v)) := by
  refine lo_of _ h (lst_len lv i (some v)) fun j w hj => ?_
  rcases lgt_lst lv i j (some v) w hj with ⟨rfl, hw⟩ | ⟨hne, hw⟩
  · cases hw
    exact List.mem_cons_self
  · refine List.mem_cons_of_mem _ (List.mem_filter.mpr ⟨lpairs_mem hw, ?_⟩)
    simp only [Bool.and_eq_true, Bool.not_eq_true', beq_eq_false_iff_ne, ne_eq, Bool.and_eq_false_iff]
    refine ⟨hne, ?_⟩
    by_cases h1 : j + 1 = i
    · subst h1
      right
      simp only [lok, hw] at hok
      cases w <;> first | (simp [Value.category]; done) | (simp at hok)
    · exact .inl h1
theorem lo_st2 {ls : Array Slot} {lv : List (Option Value)} {i : Nat} {v : Value} (hlt : i + 1 < lv.length) (hok : lok lv i = true) (h : lv_has ls lv.length ((i, v) :: (lpairs lv).filter (fun q => !(q.1 == i) && (!(q.1 == i + 1) && !(q.1 + 1 == i && q.2.category == 2))))) : lo_has ls (lst (lst lv i (some v)) (i + 1) none) := by
  refine lo_of _ h ((lst_len _ _ _).trans (lst_len lv i (some v))) fun j w hj => ?_
  rcases lgt_lst _ (i + 1) j none w hj with ⟨-, z⟩ | ⟨hn1, hw1⟩
  · cases z
  rcases lgt_lst lv i j (some v) w hw1 with ⟨e, z⟩ | ⟨hne, hw⟩
  · cases z
    rw [e]
    exact List.mem_cons_self
  · refine List.mem_cons_of_mem _ (List.mem_filter.mpr ⟨lpairs_mem hw, ?_⟩)
    simp only [Bool.and_eq_true, Bool.not_eq_true', beq_eq_false_iff_ne, ne_eq, Bool.and_eq_false_iff]
    refine ⟨hne, hn1, ?_⟩
    by_cases h1 : j + 1 = i
    · subst h1
      right
      simp only [lok, hw] at hok
      cases w <;> first | (simp [Value.category]; done) | (simp at hok)
    · exact .inl h1
/-- the locals at a method's entry -/
def lfv : List Value → List (Option Value)
  | [] => []
  | v :: t => if v.category = 2 then some v :: none :: lfv t else some v :: lfv t
def lEn (n : Nat) (av : List Value) : List (Option Value) := lfv av ++ List.replicate (n - (lfv av).length) none
theorem lgt_app : ∀ (a : List (Option Value)) (k i : Nat) (v : Value), lgt (a ++ List.replicate k none) i = some v → lgt a i = some v
  | [], k, i, v, h => by
    exfalso
    simp only [List.nil_append] at h
    induction k generalizing i with
    | zero => cases h
    | succ k ih =>
      rw [List.replicate_succ] at h
      cases i with
      | zero => cases h
      | succ i => exact ih i h
  | _ :: _, _, 0, _, h => h
  | _ :: t, k, i + 1, v, h => lgt_app t k i v h
theorem lfv_args : ∀ (av : List Value) (k i : Nat) (v : Value), lgt (lfv av) i = some v → (k + i, v) ∈ lv_args k av
  | [], _, _, _, h => by cases h
  | w :: t, k, i, v, h => by
    by_cases hc : w.category = 2
    · rw [lfv, if_pos hc] at h
      rw [lv_args, if_pos hc]
      match i, h with
      | 0, h => cases h; exact List.mem_cons_self
      | 1, h => cases h
      | i + 2, h =>
        have := lfv_args t (k + 2) i v h
        rw [show k + (i + 2) = k + 2 + i by omega]
        exact List.mem_cons_of_mem _ this
    · rw [lfv, if_neg hc] at h
      rw [lv_args, if_neg hc]
      match i, h with
      | 0, h => cases h; exact List.mem_cons_self
      | i + 1, h =>
        have := lfv_args t (k + 1) i v h
        rw [show k + (i + 1) = k + 1 + i by omega]
        exact List.mem_cons_of_mem _ this
theorem lg_sl_cons (w : Value) (t : List Value) : lg_sl (w :: t) = (if w.category = 2 then [.val w, .second] else [.val w]) ++ lg_sl t := rfl
theorem lfv_len : ∀ av : List Value, (lfv av).length = (lg_sl av).length
  | [] => rfl
  | w :: t => by
    have ih := lfv_len t
    rw [lg_sl_cons]
    by_cases hc : w.category = 2
    · rw [lfv, if_pos hc, if_pos hc]
      simp [ih]
    · rw [lfv, if_neg hc, if_neg hc]
      simp [ih]
theorem lEn_has {n : Nat} {av : List Value} (h : (lfv av).length ≤ n) : lo_has ((lg_sl av ++ List.replicate (n - (lg_sl av).length) Slot.unset).toArray) (lEn n av) := by
  refine lo_of _ (lv_entry av (by rw [← lfv_len]; exact h)) (by simp [lEn]; omega) fun i v hi => ?_
  have := lfv_args av 0 i v (lgt_app _ _ _ _ hi)
  rwa [Nat.zero_add] at this
/-- the judgement -/
def AA (G : aG) (X : aX) (cs ss pc : Nat) (lv : List (Option Value)) (st : List Value) (σ : aS) : Prop := match X with
  | (p, l, e, R, s, m, args, below, meth, c, Q) => ∀ (H : Heap) (locs : List Loc) (ls : Array Slot), AHP G σ H → va_S (aA G) s.heap H locs → lo_has ls lv → W p l e R s m args below meth c H locs cs ss Q (F0 m pc ls st)
/-- what holds all along a method's walk -/
def AOk (l : Launch) (G : aG) (X : aX) (cc : ByteArray) (own nm : String) (nL : Nat) (R : Room) : Prop := match X with
  | (p, l', _, R', s, m, args, _, meth, c, _) => p.tables.exec = Jvm.exec ∧ c.code = cc ∧ c.maxLocals = nL ∧ s.vm.findClass own = some m.cls ∧ (∀ w ∈ lw_u, w.before args s = true) ∧ AGK G s ∧ G.2.1 ≤ s.heap.size ∧ meth.name = nm ∧ l' = l ∧ R' = R
/-- a contract: with these arguments, over this store, the method returns, as P says of its answer and the new store -/
def rm_ (d mc ms : Nat) : Room := { frames := d, cells := mc, slots := ms, locals := 36 * d }
def Qm (G : aG) (P : Option Value → aS → Prop) : Array Value → State → Outcome → State → Prop := fun _ st o t => (∃ (r : Option Value) (σ' : aS), o = .returned r ∧ P r σ' ∧ AHP G σ' t.heap) ∧ va_F (aA G) st t
def wsM (y : MethodName) (cc : ByteArray) (nL : Nat) (ret : Option FieldType) : List Cond := .code y cc nL ret :: lw_g
def ACt (l : Launch) (G : aG) (y : MethodName) (cc : ByteArray) (nL : Nat) (ret : Option FieldType) (d mc ms : Nat) (av : List Value) (σ : aS) (P : Option Value → aS → Prop) : Prop :=
  Met l y (wsM y cc nL ret) (rm_ d mc ms) (fun v U => v = av.toArray ∧ AHP G σ U.heap ∧ AGK G U ∧ G.2.1 ≤ U.heap.size) (Qm G P) mc ms (aA G)
/-- a method's end -/
def ARt (G : aG) (X : aX) (P : Option Value → aS → Prop) (ret : Option FieldType) (mc ms : Nat) : Prop := match X with
  | (_, _, _, _, s, _, args, below, meth, _, Q) => Q = MQ below (Qm G P) args s mc ms (aA G) ∧ meth.sig.returnType = ret ∧ meth.locks = false
def iP (Q : Int32 → aS → Prop) : Option Value → aS → Prop := fun r σ' => ∃ x : Int32, r = some (.int x) ∧ Q x σ'
def jP (Q : Int64 → aS → Prop) : Option Value → aS → Prop := fun r σ' => ∃ x : Int64, r = some (.long x) ∧ Q x σ'
def vP (Q : aS → Prop) : Option Value → aS → Prop := fun r σ' => r = none ∧ Q σ'
def dP (v : Option Value) (σ : aS) : Option Value → aS → Prop := fun r σ' => r = v ∧ σ' = σ
theorem ACt.intro {l : Launch} {G : aG} {own nm : String} {y : MethodName} {cc : ByteArray} {nL n : Nat} {ret : Option FieldType} {d mc ms : Nat} {av : List Value} {σ : aS} {P : Option Value → aS → Prop} (hy : MkY y cc nL ret n) (ho : y.cls = own) (hnm : y.name = nm) (lv : List (Option Value)) (hlv : lEn nL av = lv) (hle : (lfv av).length ≤ nL)
    (body : ∀ X : aX, AOk l G X cc own nm nL (rm_ d mc ms) → ARt G X P ret mc ms → AA G X 0 0 0 lv [] σ) : ACt l G y cc nL ret d mc ms av σ P := by
  subst ho; subst hnm
  obtain ⟨hcode, hini, hmh, hn, hpl⟩ := hy
  refine Met.ofW (cc := cc) (maxL := nL) (ret := ret) hpl rfl ?_
  intro p e s m args below meth c s₁ B hml hv
  obtain ⟨rfl, hH, hK, hb0⟩ := hv
  have hts := atoms_spec (ws := wsM y cc nL ret) B.pre
  have hown : s.vm.findClass y.cls = some m.cls := findClass_of_methodNamed B.named
  have hin : meth.name = y.name := (name_of_methodNamed B.named B.method).1
  have hts' : ∀ w ∈ lw_u, w.before av.toArray s = true := fun w hw => by
    obtain ⟨h1, h2⟩ := List.mem_filter.mp hw
    by_cases hg : goodWord w = true
    · exact hts w (List.mem_cons_of_mem _ (List.mem_filter.mpr ⟨h1, hg⟩))
    · have hs : spc w = true := by
        simp only [uw, Bool.or_eq_true] at h2
        exact h2.resolve_left hg
      exact spc_use hs (hK.2.2 w hw hs)
  have hl := lEn_has (n := nL) (av := av) hle
  rw [lg_entry_eq]
  have h := body (p, l, e, (headSpec (wsM y cc nL ret) (rm_ d mc ms)).room, s, m, av.toArray, below, meth, c, MQ below (Qm G P) av.toArray s mc ms (aA G)) ⟨B.exec, B.bytes, hml, hown, hts', hK, hb0, hin, rfl, rfl⟩ ⟨rfl, B.returns, B.notSynchronized⟩
  exact h s.heap [] _ hH va_S.rf (hlv ▸ hl)
theorem ACt.weaken {l : Launch} {G : aG} {y : MethodName} {cc : ByteArray} {nL : Nat} {ret : Option FieldType} {d mc ms : Nat} {av : List Value} {σ : aS} {P P' : Option Value → aS → Prop} (h : ACt l G y cc nL ret d mc ms av σ P) (hP : ∀ r σ', P r σ' → P' r σ') : ACt l G y cc nL ret d mc ms av σ P' := by
  unfold ACt Met at h ⊢
  refine MetFree.mono h (fun _ _ h => h) (fun _ _ _ _ _ h => h) ?_
  rintro _ _ _ _ _ ⟨⟨⟨r, σ', h1, h2, h3⟩, h4⟩, h5⟩
  exact ⟨⟨⟨r, σ', h1, hP r σ' h2, h3⟩, h4⟩, h5⟩
section rows
variable {l : Launch} {G : aG} {X : aX} {cc : ByteArray} {own nm : String} {nL : Nat} {R : Room} {cs ss pc : Nat} {lv lv' : List (Option Value)} {st : List Value} {σ : aS}
/-! a row an instruction -/
theorem A_iconst {n : Int} {v : Int32} (hv : Int32.ofInt n = v) (hX : AOk l G X cc own nm nL R) (d : decode cc pc = .ok (.iconst n, 1)) (k : AA G X cs ss (pc + 1) lv (.int v :: st) σ) : AA G X cs ss pc lv (st) σ := by
  obtain ⟨p, l', e, R', s, m, args, below, meth, c, Q⟩ := X
  obtain ⟨hx, hb, hml, hown, hts, hK, hb0, hnm, hll, hR⟩ := hX
  intro H locs ls hH hS hL
  exact lv_iconst hx hb d hv (k H locs ls hH hS hL)
theorem A_bipush {n : Int} {v : Int32} (hv : (Int8.ofInt n).toInt32 = v) (hX : AOk l G X cc own nm nL R) (d : decode cc pc = .ok (.bipush n, 2)) (k : AA G X cs ss (pc + 2) lv (.int v :: st) σ) : AA G X cs ss pc lv (st) σ := by
  obtain ⟨p, l', e, R', s, m, args, below, meth, c, Q⟩ := X
  obtain ⟨hx, hb, hml, hown, hts, hK, hb0, hnm, hll, hR⟩ := hX
  intro H locs ls hH hS hL
  exact lv_bipush hx hb d hv (k H locs ls hH hS hL)
theorem A_sipush {n : Int} {v : Int32} (hv : (Int16.ofInt n).toInt32 = v) (hX : AOk l G X cc own nm nL R) (d : decode cc pc = .ok (.sipush n, 3)) (k : AA G X cs ss (pc + 3) lv (.int v :: st) σ) : AA G X cs ss pc lv (st) σ := by
  obtain ⟨p, l', e, R', s, m, args, below, meth, c, Q⟩ := X
  obtain ⟨hx, hb, hml, hown, hts, hK, hb0, hnm, hll, hR⟩ := hX
  intro H locs ls hH hS hL
  exact lv_sipush hx hb d hv (k H locs ls hH hS hL)
theorem A_ldc {idx : Nat} {v : Int32} (hw : Cond.constant own idx v ∈ lw_u) (hX : AOk l G X cc own nm nL R) (d : decode cc pc = .ok (.ldc idx, 2)) (k : AA G X cs ss (pc + 2) lv (.int v :: st) σ) : AA G X cs ss pc lv (st) σ := by
  obtain ⟨p, l', e, R', s, m, args, below, meth, c, Q⟩ := X
  obtain ⟨hx, hb, hml, hown, hts, hK, hb0, hnm, hll, hR⟩ := hX
  intro H locs ls hH hS hL
  exact lv_ldc hx hb hown (hts _ hw) d (k H locs ls hH hS hL)
theorem A_ldcw {idx : Nat} {v : Int32} (hw : Cond.constant own idx v ∈ lw_u) (hX : AOk l G X cc own nm nL R) (d : decode cc pc = .ok (.ldc_w idx, 3)) (k : AA G X cs ss (pc + 3) lv (.int v :: st) σ) : AA G X cs ss pc lv (st) σ := by
  obtain ⟨p, l', e, R', s, m, args, below, meth, c, Q⟩ := X
  obtain ⟨hx, hb, hml, hown, hts, hK, hb0, hnm, hll, hR⟩ := hX
  intro H locs ls hH hS hL
  exact lv_ldcw hx hb hown (hts _ hw) d (k H locs ls hH hS hL)
theorem A_ldc2 {idx : Nat} {v : Int64} (hw : Cond.constantLong own idx v ∈ lw_u) (hX : AOk l G X cc own nm nL R) (d : decode cc pc = .ok (.ldc2_w idx, 3)) (k : AA G X cs ss (pc + 3) lv (.long v :: st) σ) : AA G X cs ss pc lv (st) σ := by
  obtain ⟨p, l', e, R', s, m, args, below, meth, c, Q⟩ := X
  obtain ⟨hx, hb, hml, hown, hts, hK, hb0, hnm, hll, hR⟩ := hX
  intro H locs ls hH hS hL
  exact lv_ldc2 hx hb hown (hts _ hw) d (k H locs ls hH hS hL)
theorem A_null (hX : AOk l G X cc own nm nL R) (d : decode cc pc = .ok (.aconst_null, 1)) (k : AA G X cs ss (pc + 1) lv (.null :: st) σ) : AA G X cs ss pc lv (st) σ := by
  obtain ⟨p, l', e, R', s, m, args, below, meth, c, Q⟩ := X
  obtain ⟨hx, hb, hml, hown, hts, hK, hb0, hnm, hll, hR⟩ := hX
  intro H locs ls hH hS hL
  exact lv_null hx hb d (k H locs ls hH hS hL)
theorem A_iload_n {i : Fin 4} {x : Int32} (hl : lgt lv i = some (.int x)) (hX : AOk l G X cc own nm nL R) (d : decode cc pc = .ok (.iload_n i, 1)) (k : AA G X cs ss (pc + 1) lv (.int x :: st) σ) : AA G X cs ss pc lv (st) σ := by
  obtain ⟨p, l', e, R', s, m, args, below, meth, c, Q⟩ := X
  obtain ⟨hx, hb, hml, hown, hts, hK, hb0, hnm, hll, hR⟩ := hX
  intro H locs ls hH hS hL
  exact lv_iload_n hx hb d rfl (lo_at hL hl) (k H locs ls hH hS hL)
theorem A_iload {i : Nat} {x : Int32} (hl : lgt lv i = some (.int x)) (hX : AOk l G X cc own nm nL R) (d : decode cc pc = .ok (.iload i, 2)) (k : AA G X cs ss (pc + 2) lv (.int x :: st) σ) : AA G X cs ss pc lv (st) σ := by
  obtain ⟨p, l', e, R', s, m, args, below, meth, c, Q⟩ := X
  obtain ⟨hx, hb, hml, hown, hts, hK, hb0, hnm, hll, hR⟩ := hX
  intro H locs ls hH hS hL
  exact lv_iload hx hb d (lo_at hL hl) (k H locs ls hH hS hL)
theorem A_lload_n {i : Fin 4} {x : Int64} (hl : lgt lv i = some (.long x)) (hX : AOk l G X cc own nm nL R) (d : decode cc pc = .ok (.lload_n i, 1)) (k : AA G X cs ss (pc + 1) lv (.long x :: st) σ) : AA G X cs ss pc lv (st) σ := by
  obtain ⟨p, l', e, R', s, m, args, below, meth, c, Q⟩ := X
  obtain ⟨hx, hb, hml, hown, hts, hK, hb0, hnm, hll, hR⟩ := hX
  intro H locs ls hH hS hL
  exact lv_lload_n hx hb d rfl (lo_at hL hl) (k H locs ls hH hS hL)
theorem A_lload {i : Nat} {x : Int64} (hl : lgt lv i = some (.long x)) (hX : AOk l G X cc own nm nL R) (d : decode cc pc = .ok (.lload i, 2)) (k : AA G X cs ss (pc + 2) lv (.long x :: st) σ) : AA G X cs ss pc lv (st) σ := by
  obtain ⟨p, l', e, R', s, m, args, below, meth, c, Q⟩ := X
  obtain ⟨hx, hb, hml, hown, hts, hK, hb0, hnm, hll, hR⟩ := hX
  intro H locs ls hH hS hL
  exact lv_lload hx hb d (lo_at hL hl) (k H locs ls hH hS hL)
theorem A_aload_n {i : Fin 4} {x : Nat} (hl : lgt lv i = some (.ref x)) (hX : AOk l G X cc own nm nL R) (d : decode cc pc = .ok (.aload_n i, 1)) (k : AA G X cs ss (pc + 1) lv (.ref x :: st) σ) : AA G X cs ss pc lv (st) σ := by
  obtain ⟨p, l', e, R', s, m, args, below, meth, c, Q⟩ := X
  obtain ⟨hx, hb, hml, hown, hts, hK, hb0, hnm, hll, hR⟩ := hX
  intro H locs ls hH hS hL
  exact lv_aload_n hx hb d rfl (lo_at hL hl) (k H locs ls hH hS hL)
theorem A_aload {i : Nat} {x : Nat} (hl : lgt lv i = some (.ref x)) (hX : AOk l G X cc own nm nL R) (d : decode cc pc = .ok (.aload i, 2)) (k : AA G X cs ss (pc + 2) lv (.ref x :: st) σ) : AA G X cs ss pc lv (st) σ := by
  obtain ⟨p, l', e, R', s, m, args, below, meth, c, Q⟩ := X
  obtain ⟨hx, hb, hml, hown, hts, hK, hb0, hnm, hll, hR⟩ := hX
  intro H locs ls hH hS hL
  exact lv_aload hx hb d (lo_at hL hl) (k H locs ls hH hS hL)
theorem A_aload_nN {i : Fin 4} (hl : lgt lv i = some .null) (hX : AOk l G X cc own nm nL R) (d : decode cc pc = .ok (.aload_n i, 1)) (k : AA G X cs ss (pc + 1) lv (.null :: st) σ) : AA G X cs ss pc lv (st) σ := by
  obtain ⟨p, l', e, R', s, m, args, below, meth, c, Q⟩ := X
  obtain ⟨hx, hb, hml, hown, hts, hK, hb0, hnm, hll, hR⟩ := hX
  intro H locs ls hH hS hL
  exact lv_aload_nN hx hb d rfl (lo_at hL hl) (k H locs ls hH hS hL)
theorem A_aloadN {i : Nat} (hl : lgt lv i = some .null) (hX : AOk l G X cc own nm nL R) (d : decode cc pc = .ok (.aload i, 2)) (k : AA G X cs ss (pc + 2) lv (.null :: st) σ) : AA G X cs ss pc lv (st) σ := by
  obtain ⟨p, l', e, R', s, m, args, below, meth, c, Q⟩ := X
  obtain ⟨hx, hb, hml, hown, hts, hK, hb0, hnm, hll, hR⟩ := hX
  intro H locs ls hH hS hL
  exact lv_aloadN hx hb d (lo_at hL hl) (k H locs ls hH hS hL)
theorem A_istore_n {i : Fin 4} {x : Int32} (hX : AOk l G X cc own nm nL R) (d : decode cc pc = .ok (.istore_n i, 1)) (hlt : (i : Nat) < lv.length) (hok : lok lv i = true) (he : lst lv i (some (.int x)) = lv') (k : AA G X cs ss (pc + 1) lv' st σ) : AA G X cs ss pc lv (.int x :: st) σ := by
  obtain ⟨p, l', e, R', s, m, args, below, meth, c, Q⟩ := X
  obtain ⟨hx, hb, hml, hown, hts, hK, hb0, hnm, hll, hR⟩ := hX
  subst he
  intro H locs ls hH hS hL
  exact lv_istore_n hx hb d rfl hL hlt rfl fun ls' h => k H locs ls' hH hS (lo_st1 rfl hlt hok h)
theorem A_istore {i : Nat} {x : Int32} (hX : AOk l G X cc own nm nL R) (d : decode cc pc = .ok (.istore i, 2)) (hlt : (i : Nat) < lv.length) (hok : lok lv i = true) (he : lst lv i (some (.int x)) = lv') (k : AA G X cs ss (pc + 2) lv' st σ) : AA G X cs ss pc lv (.int x :: st) σ := by
  obtain ⟨p, l', e, R', s, m, args, below, meth, c, Q⟩ := X
  obtain ⟨hx, hb, hml, hown, hts, hK, hb0, hnm, hll, hR⟩ := hX
  subst he
  intro H locs ls hH hS hL
  exact lv_istore hx hb d  hL hlt rfl fun ls' h => k H locs ls' hH hS (lo_st1 rfl hlt hok h)
theorem A_astore_n {i : Fin 4} {x : Nat} (hX : AOk l G X cc own nm nL R) (d : decode cc pc = .ok (.astore_n i, 1)) (hlt : (i : Nat) < lv.length) (hok : lok lv i = true) (he : lst lv i (some (.ref x)) = lv') (k : AA G X cs ss (pc + 1) lv' st σ) : AA G X cs ss pc lv (.ref x :: st) σ := by
  obtain ⟨p, l', e, R', s, m, args, below, meth, c, Q⟩ := X
  obtain ⟨hx, hb, hml, hown, hts, hK, hb0, hnm, hll, hR⟩ := hX
  subst he
  intro H locs ls hH hS hL
  exact lv_astore_n hx hb d rfl hL hlt rfl fun ls' h => k H locs ls' hH hS (lo_st1 rfl hlt hok h)
theorem A_astore {i : Nat} {x : Nat} (hX : AOk l G X cc own nm nL R) (d : decode cc pc = .ok (.astore i, 2)) (hlt : (i : Nat) < lv.length) (hok : lok lv i = true) (he : lst lv i (some (.ref x)) = lv') (k : AA G X cs ss (pc + 2) lv' st σ) : AA G X cs ss pc lv (.ref x :: st) σ := by
  obtain ⟨p, l', e, R', s, m, args, below, meth, c, Q⟩ := X
  obtain ⟨hx, hb, hml, hown, hts, hK, hb0, hnm, hll, hR⟩ := hX
  subst he
  intro H locs ls hH hS hL
  exact lv_astore hx hb d  hL hlt rfl fun ls' h => k H locs ls' hH hS (lo_st1 rfl hlt hok h)
theorem A_astore_nN {i : Fin 4} (hX : AOk l G X cc own nm nL R) (d : decode cc pc = .ok (.astore_n i, 1)) (hlt : (i : Nat) < lv.length) (hok : lok lv i = true) (he : lst lv i (some (.null)) = lv') (k : AA G X cs ss (pc + 1) lv' st σ) : AA G X cs ss pc lv (.null :: st) σ := by
  obtain ⟨p, l', e, R', s, m, args, below, meth, c, Q⟩ := X
  obtain ⟨hx, hb, hml, hown, hts, hK, hb0, hnm, hll, hR⟩ := hX
  subst he
  intro H locs ls hH hS hL
  exact lv_astore_nN hx hb d rfl hL hlt rfl fun ls' h => k H locs ls' hH hS (lo_st1 rfl hlt hok h)
theorem A_astoreN {i : Nat} (hX : AOk l G X cc own nm nL R) (d : decode cc pc = .ok (.astore i, 2)) (hlt : (i : Nat) < lv.length) (hok : lok lv i = true) (he : lst lv i (some (.null)) = lv') (k : AA G X cs ss (pc + 2) lv' st σ) : AA G X cs ss pc lv (.null :: st) σ := by
  obtain ⟨p, l', e, R', s, m, args, below, meth, c, Q⟩ := X
  obtain ⟨hx, hb, hml, hown, hts, hK, hb0, hnm, hll, hR⟩ := hX
  subst he
  intro H locs ls hH hS hL
  exact lv_astoreN hx hb d  hL hlt rfl fun ls' h => k H locs ls' hH hS (lo_st1 rfl hlt hok h)
theorem A_lstore_n {i : Fin 4} {x : Int64} (hX : AOk l G X cc own nm nL R) (d : decode cc pc = .ok (.lstore_n i, 1)) (hlt : (i + 1 : Nat) < lv.length) (hok : lok lv i = true) (he : lst (lst lv i (some (.long x))) (i + 1) none = lv') (k : AA G X cs ss (pc + 1) lv' st σ) : AA G X cs ss pc lv (.long x :: st) σ := by
  obtain ⟨p, l', e, R', s, m, args, below, meth, c, Q⟩ := X
  obtain ⟨hx, hb, hml, hown, hts, hK, hb0, hnm, hll, hR⟩ := hX
  subst he
  intro H locs ls hH hS hL
  exact lv_lstore_n hx hb d rfl hL hlt rfl fun ls' h => k H locs ls' hH hS (lo_st2 hlt hok h)
theorem A_lstore {i : Nat} {x : Int64} (hX : AOk l G X cc own nm nL R) (d : decode cc pc = .ok (.lstore i, 2)) (hlt : (i + 1 : Nat) < lv.length) (hok : lok lv i = true) (he : lst (lst lv i (some (.long x))) (i + 1) none = lv') (k : AA G X cs ss (pc + 2) lv' st σ) : AA G X cs ss pc lv (.long x :: st) σ := by
  obtain ⟨p, l', e, R', s, m, args, below, meth, c, Q⟩ := X
  obtain ⟨hx, hb, hml, hown, hts, hK, hb0, hnm, hll, hR⟩ := hX
  subst he
  intro H locs ls hH hS hL
  exact lv_lstore hx hb d  hL hlt rfl fun ls' h => k H locs ls' hH hS (lo_st2 hlt hok h)
theorem lpairs_at {lv : List (Option Value)} {i : Nat} {v : Value} (h : lgt lv i = some v) : ∃ k : Nat, (lpairs lv)[k]? = some (i, v) := List.getElem?_of_mem (lpairs_mem h)
theorem A_iinc {i : Nat} {n : Int} {x v : Int32} (hX : AOk l G X cc own nm nL R) (d : decode cc pc = .ok (.iinc i n, 3)) (hl : lgt lv i = some (.int x)) (hv : x + Int32.ofInt n = v) (hok : lok lv i = true) (he : lst lv i (some (.int v)) = lv') (k : AA G X cs ss (pc + 3) lv' st σ) : AA G X cs ss pc lv st σ := by
  obtain ⟨p, l', e, R', s, m, args, below, meth, c, Q⟩ := X
  obtain ⟨hx, hb, hml, hown, hts, hK, hb0, hnm, hll, hR⟩ := hX
  subst he
  intro H locs ls hH hS hL
  obtain ⟨kk, hk⟩ := lpairs_at hl
  exact lv_iinc hx hb d hL hk hv (lgt_lt hl) rfl fun ls' h => k H locs ls' hH hS (lo_st1 rfl (lgt_lt hl) hok h)
theorem A_iadd {x y : Int32} (hX : AOk l G X cc own nm nL R) (d : decode cc pc = .ok (.iadd, 1)) (k : AA G X cs ss (pc + 1) lv (.int (x + y) :: st) σ) : AA G X cs ss pc lv (.int y :: .int x :: st) σ := by
  obtain ⟨p, l', e, R', s, m, args, below, meth, c, Q⟩ := X
  obtain ⟨hx, hb, hml, hown, hts, hK, hb0, hnm, hll, hR⟩ := hX
  intro H locs ls hH hS hL
  exact lv_iadd hx hb d (k H locs ls hH hS hL)
theorem A_isub {x y : Int32} (hX : AOk l G X cc own nm nL R) (d : decode cc pc = .ok (.isub, 1)) (k : AA G X cs ss (pc + 1) lv (.int (x - y) :: st) σ) : AA G X cs ss pc lv (.int y :: .int x :: st) σ := by
  obtain ⟨p, l', e, R', s, m, args, below, meth, c, Q⟩ := X
  obtain ⟨hx, hb, hml, hown, hts, hK, hb0, hnm, hll, hR⟩ := hX
  intro H locs ls hH hS hL
  exact lv_isub hx hb d (k H locs ls hH hS hL)
theorem A_imul {x y : Int32} (hX : AOk l G X cc own nm nL R) (d : decode cc pc = .ok (.imul, 1)) (k : AA G X cs ss (pc + 1) lv (.int (x * y) :: st) σ) : AA G X cs ss pc lv (.int y :: .int x :: st) σ := by
  obtain ⟨p, l', e, R', s, m, args, below, meth, c, Q⟩ := X
  obtain ⟨hx, hb, hml, hown, hts, hK, hb0, hnm, hll, hR⟩ := hX
  intro H locs ls hH hS hL
  exact lv_imul hx hb d (k H locs ls hH hS hL)
theorem A_iand {x y : Int32} (hX : AOk l G X cc own nm nL R) (d : decode cc pc = .ok (.iand, 1)) (k : AA G X cs ss (pc + 1) lv (.int (x &&& y) :: st) σ) : AA G X cs ss pc lv (.int y :: .int x :: st) σ := by
  obtain ⟨p, l', e, R', s, m, args, below, meth, c, Q⟩ := X
  obtain ⟨hx, hb, hml, hown, hts, hK, hb0, hnm, hll, hR⟩ := hX
  intro H locs ls hH hS hL
  exact lv_iand hx hb d (k H locs ls hH hS hL)
theorem A_ior {x y : Int32} (hX : AOk l G X cc own nm nL R) (d : decode cc pc = .ok (.ior, 1)) (k : AA G X cs ss (pc + 1) lv (.int (x ||| y) :: st) σ) : AA G X cs ss pc lv (.int y :: .int x :: st) σ := by
  obtain ⟨p, l', e, R', s, m, args, below, meth, c, Q⟩ := X
  obtain ⟨hx, hb, hml, hown, hts, hK, hb0, hnm, hll, hR⟩ := hX
  intro H locs ls hH hS hL
  exact lv_ior hx hb d (k H locs ls hH hS hL)
theorem A_ixor {x y : Int32} (hX : AOk l G X cc own nm nL R) (d : decode cc pc = .ok (.ixor, 1)) (k : AA G X cs ss (pc + 1) lv (.int (x ^^^ y) :: st) σ) : AA G X cs ss pc lv (.int y :: .int x :: st) σ := by
  obtain ⟨p, l', e, R', s, m, args, below, meth, c, Q⟩ := X
  obtain ⟨hx, hb, hml, hown, hts, hK, hb0, hnm, hll, hR⟩ := hX
  intro H locs ls hH hS hL
  exact lv_ixor hx hb d (k H locs ls hH hS hL)
theorem A_ishl {x y : Int32} (hX : AOk l G X cc own nm nL R) (d : decode cc pc = .ok (.ishl, 1)) (k : AA G X cs ss (pc + 1) lv (.int (x <<< (y &&& 31)) :: st) σ) : AA G X cs ss pc lv (.int y :: .int x :: st) σ := by
  obtain ⟨p, l', e, R', s, m, args, below, meth, c, Q⟩ := X
  obtain ⟨hx, hb, hml, hown, hts, hK, hb0, hnm, hll, hR⟩ := hX
  intro H locs ls hH hS hL
  exact lv_ishl hx hb d (k H locs ls hH hS hL)
theorem A_ishr {x y : Int32} (hX : AOk l G X cc own nm nL R) (d : decode cc pc = .ok (.ishr, 1)) (k : AA G X cs ss (pc + 1) lv (.int (x >>> (y &&& 31)) :: st) σ) : AA G X cs ss pc lv (.int y :: .int x :: st) σ := by
  obtain ⟨p, l', e, R', s, m, args, below, meth, c, Q⟩ := X
  obtain ⟨hx, hb, hml, hown, hts, hK, hb0, hnm, hll, hR⟩ := hX
  intro H locs ls hH hS hL
  exact lv_ishr hx hb d (k H locs ls hH hS hL)
theorem A_ladd {x y : Int64} (hX : AOk l G X cc own nm nL R) (d : decode cc pc = .ok (.ladd, 1)) (k : AA G X cs ss (pc + 1) lv (.long (x + y) :: st) σ) : AA G X cs ss pc lv (.long y :: .long x :: st) σ := by
  obtain ⟨p, l', e, R', s, m, args, below, meth, c, Q⟩ := X
  obtain ⟨hx, hb, hml, hown, hts, hK, hb0, hnm, hll, hR⟩ := hX
  intro H locs ls hH hS hL
  exact lv_ladd hx hb d (k H locs ls hH hS hL)
theorem A_lsub {x y : Int64} (hX : AOk l G X cc own nm nL R) (d : decode cc pc = .ok (.lsub, 1)) (k : AA G X cs ss (pc + 1) lv (.long (x - y) :: st) σ) : AA G X cs ss pc lv (.long y :: .long x :: st) σ := by
  obtain ⟨p, l', e, R', s, m, args, below, meth, c, Q⟩ := X
  obtain ⟨hx, hb, hml, hown, hts, hK, hb0, hnm, hll, hR⟩ := hX
  intro H locs ls hH hS hL
  exact lv_lsub hx hb d (k H locs ls hH hS hL)
theorem A_lmul {x y : Int64} (hX : AOk l G X cc own nm nL R) (d : decode cc pc = .ok (.lmul, 1)) (k : AA G X cs ss (pc + 1) lv (.long (x * y) :: st) σ) : AA G X cs ss pc lv (.long y :: .long x :: st) σ := by
  obtain ⟨p, l', e, R', s, m, args, below, meth, c, Q⟩ := X
  obtain ⟨hx, hb, hml, hown, hts, hK, hb0, hnm, hll, hR⟩ := hX
  intro H locs ls hH hS hL
  exact lv_lmul hx hb d (k H locs ls hH hS hL)
theorem A_land {x y : Int64} (hX : AOk l G X cc own nm nL R) (d : decode cc pc = .ok (.land, 1)) (k : AA G X cs ss (pc + 1) lv (.long (x &&& y) :: st) σ) : AA G X cs ss pc lv (.long y :: .long x :: st) σ := by
  obtain ⟨p, l', e, R', s, m, args, below, meth, c, Q⟩ := X
  obtain ⟨hx, hb, hml, hown, hts, hK, hb0, hnm, hll, hR⟩ := hX
  intro H locs ls hH hS hL
  exact lv_land hx hb d (k H locs ls hH hS hL)
theorem A_idiv {x y : Int32} (hne : ¬ y = 0) (hX : AOk l G X cc own nm nL R) (d : decode cc pc = .ok (.idiv, 1)) (k : AA G X cs ss (pc + 1) lv (.int (x / y) :: st) σ) : AA G X cs ss pc lv (.int y :: .int x :: st) σ := by
  obtain ⟨p, l', e, R', s, m, args, below, meth, c, Q⟩ := X
  obtain ⟨hx, hb, hml, hown, hts, hK, hb0, hnm, hll, hR⟩ := hX
  intro H locs ls hH hS hL
  exact lv_idiv hx hb d hne (k H locs ls hH hS hL)
theorem A_irem {x y : Int32} (hne : ¬ y = 0) (hX : AOk l G X cc own nm nL R) (d : decode cc pc = .ok (.irem, 1)) (k : AA G X cs ss (pc + 1) lv (.int (x - x / y * y) :: st) σ) : AA G X cs ss pc lv (.int y :: .int x :: st) σ := by
  obtain ⟨p, l', e, R', s, m, args, below, meth, c, Q⟩ := X
  obtain ⟨hx, hb, hml, hown, hts, hK, hb0, hnm, hll, hR⟩ := hX
  intro H locs ls hH hS hL
  exact lv_irem hx hb d hne (k H locs ls hH hS hL)
theorem A_ldiv {x y : Int64} (hne : ¬ y = 0) (hX : AOk l G X cc own nm nL R) (d : decode cc pc = .ok (.ldiv, 1)) (k : AA G X cs ss (pc + 1) lv (.long (x / y) :: st) σ) : AA G X cs ss pc lv (.long y :: .long x :: st) σ := by
  obtain ⟨p, l', e, R', s, m, args, below, meth, c, Q⟩ := X
  obtain ⟨hx, hb, hml, hown, hts, hK, hb0, hnm, hll, hR⟩ := hX
  intro H locs ls hH hS hL
  exact lv_ldiv hx hb d hne (k H locs ls hH hS hL)
theorem A_lrem {x y : Int64} (hne : ¬ y = 0) (hX : AOk l G X cc own nm nL R) (d : decode cc pc = .ok (.lrem, 1)) (k : AA G X cs ss (pc + 1) lv (.long (x - x / y * y) :: st) σ) : AA G X cs ss pc lv (.long y :: .long x :: st) σ := by
  obtain ⟨p, l', e, R', s, m, args, below, meth, c, Q⟩ := X
  obtain ⟨hx, hb, hml, hown, hts, hK, hb0, hnm, hll, hR⟩ := hX
  intro H locs ls hH hS hL
  exact lv_lrem hx hb d hne (k H locs ls hH hS hL)
theorem A_iushr {x y : Int32} (hX : AOk l G X cc own nm nL R) (d : decode cc pc = .ok (.iushr, 1)) (k : AA G X cs ss (pc + 1) lv (.int ((x.toUInt32 >>> (y.toUInt32 &&& Int32.toUInt32 31)).toInt32) :: st) σ) : AA G X cs ss pc lv (.int y :: .int x :: st) σ := by
  obtain ⟨p, l', e, R', s, m, args, below, meth, c, Q⟩ := X
  obtain ⟨hx, hb, hml, hown, hts, hK, hb0, hnm, hll, hR⟩ := hX
  intro H locs ls hH hS hL
  exact lv_iushr hx hb d rfl (k H locs ls hH hS hL)
theorem A_i2l {x : Int32} (hX : AOk l G X cc own nm nL R) (d : decode cc pc = .ok (.i2l, 1)) (k : AA G X cs ss (pc + 1) lv (.long x.toInt64 :: st) σ) : AA G X cs ss pc lv (.int x :: st) σ := by
  obtain ⟨p, l', e, R', s, m, args, below, meth, c, Q⟩ := X
  obtain ⟨hx, hb, hml, hown, hts, hK, hb0, hnm, hll, hR⟩ := hX
  intro H locs ls hH hS hL
  exact lv_i2l hx hb d rfl (k H locs ls hH hS hL)
theorem A_l2i {x : Int64} (hX : AOk l G X cc own nm nL R) (d : decode cc pc = .ok (.l2i, 1)) (k : AA G X cs ss (pc + 1) lv (.int x.toInt32 :: st) σ) : AA G X cs ss pc lv (.long x :: st) σ := by
  obtain ⟨p, l', e, R', s, m, args, below, meth, c, Q⟩ := X
  obtain ⟨hx, hb, hml, hown, hts, hK, hb0, hnm, hll, hR⟩ := hX
  intro H locs ls hH hS hL
  exact lv_l2i hx hb d rfl (k H locs ls hH hS hL)
theorem A_i2b {x : Int32} (hX : AOk l G X cc own nm nL R) (d : decode cc pc = .ok (.i2b, 1)) (k : AA G X cs ss (pc + 1) lv (.int x.toInt8.toInt32 :: st) σ) : AA G X cs ss pc lv (.int x :: st) σ := by
  obtain ⟨p, l', e, R', s, m, args, below, meth, c, Q⟩ := X
  obtain ⟨hx, hb, hml, hown, hts, hK, hb0, hnm, hll, hR⟩ := hX
  intro H locs ls hH hS hL
  exact lv_i2b hx hb d rfl (k H locs ls hH hS hL)
theorem A_lcmp {x y : Int64} (hX : AOk l G X cc own nm nL R) (d : decode cc pc = .ok (.lcmp, 1)) (k : AA G X cs ss (pc + 1) lv (.int (lg_cmp x y) :: st) σ) : AA G X cs ss pc lv (.long y :: .long x :: st) σ := by
  obtain ⟨p, l', e, R', s, m, args, below, meth, c, Q⟩ := X
  obtain ⟨hx, hb, hml, hown, hts, hK, hb0, hnm, hll, hR⟩ := hX
  intro H locs ls hH hS hL
  exact W.lcmp hx hb d (k H locs ls hH hS hL)
theorem A_dup {v : Value} (hc : v.category = 1) (hX : AOk l G X cc own nm nL R) (d : decode cc pc = .ok (.dup, 1)) (k : AA G X cs ss (pc + 1) lv (v :: v :: st) σ) : AA G X cs ss pc lv (v :: st) σ := by
  obtain ⟨p, l', e, R', s, m, args, below, meth, c, Q⟩ := X
  obtain ⟨hx, hb, hml, hown, hts, hK, hb0, hnm, hll, hR⟩ := hX
  intro H locs ls hH hS hL
  exact lv_dup hx hb d hc (k H locs ls hH hS hL)
theorem A_dup2 {v w : Value} (hv : v.category = 1) (hw : w.category = 1) (hX : AOk l G X cc own nm nL R) (d : decode cc pc = .ok (.dup2, 1)) (k : AA G X cs ss (pc + 1) lv (v :: w :: v :: w :: st) σ) : AA G X cs ss pc lv (v :: w :: st) σ := by
  obtain ⟨p, l', e, R', s, m, args, below, meth, c, Q⟩ := X
  obtain ⟨hx, hb, hml, hown, hts, hK, hb0, hnm, hll, hR⟩ := hX
  intro H locs ls hH hS hL
  exact lv_dup2_11 hx hb d hv hw (k H locs ls hH hS hL)
theorem A_goto {off : Int} (tgt : Nat) (hX : AOk l G X cc own nm nL R) (d : decode cc pc = .ok (.goto off, 3)) (ht : (pc : Int) + off = (tgt : Int)) (k : AA G X cs ss tgt lv st σ) : AA G X cs ss pc lv st σ := by
  obtain ⟨p, l', e, R', s, m, args, below, meth, c, Q⟩ := X
  obtain ⟨hx, hb, hml, hown, hts, hK, hb0, hnm, hll, hR⟩ := hX
  intro H locs ls hH hS hL
  exact lv_goto hx hb d ht (k H locs ls hH hS hL)
theorem A_if_eq {x : Int32} {off : Int} (tgt : Nat) (hX : AOk l G X cc own nm nL R) (d : decode cc pc = .ok (.ifCond .eq off, 3)) (ht : (pc : Int) + off = (tgt : Int)) (kt : x = 0 → AA G X cs ss tgt lv st σ) (kf : ¬ x = 0 → AA G X cs ss (pc + 3) lv st σ) : AA G X cs ss pc lv (.int x :: st) σ := by
  obtain ⟨p, l', e, R', s, m, args, below, meth, c, Q⟩ := X
  obtain ⟨hx, hb, hml, hown, hts, hK, hb0, hnm, hll, hR⟩ := hX
  intro H locs ls hH hS hL
  exact lv_if_eq hx hb d ht (fun q => kt (by first | exact q | simpa using q) H locs ls hH hS hL) (fun q => kf (by first | exact q | simpa using q) H locs ls hH hS hL)
theorem A_icmp_eq {x y : Int32} {off : Int} (tgt : Nat) (hX : AOk l G X cc own nm nL R) (d : decode cc pc = .ok (.if_icmp .eq off, 3)) (ht : (pc : Int) + off = (tgt : Int)) (kt : x = y → AA G X cs ss tgt lv st σ) (kf : ¬ x = y → AA G X cs ss (pc + 3) lv st σ) : AA G X cs ss pc lv (.int y :: .int x :: st) σ := by
  obtain ⟨p, l', e, R', s, m, args, below, meth, c, Q⟩ := X
  obtain ⟨hx, hb, hml, hown, hts, hK, hb0, hnm, hll, hR⟩ := hX
  intro H locs ls hH hS hL
  exact lv_icmp_eq hx hb d ht (fun q => kt (by first | exact q | simpa using q) H locs ls hH hS hL) (fun q => kf (by first | exact q | simpa using q) H locs ls hH hS hL)
theorem A_if_ne {x : Int32} {off : Int} (tgt : Nat) (hX : AOk l G X cc own nm nL R) (d : decode cc pc = .ok (.ifCond .ne off, 3)) (ht : (pc : Int) + off = (tgt : Int)) (kt : ¬ x = 0 → AA G X cs ss tgt lv st σ) (kf : x = 0 → AA G X cs ss (pc + 3) lv st σ) : AA G X cs ss pc lv (.int x :: st) σ := by
  obtain ⟨p, l', e, R', s, m, args, below, meth, c, Q⟩ := X
  obtain ⟨hx, hb, hml, hown, hts, hK, hb0, hnm, hll, hR⟩ := hX
  intro H locs ls hH hS hL
  exact lv_if_ne hx hb d ht (fun q => kt (by first | exact q | simpa using q) H locs ls hH hS hL) (fun q => kf (by first | exact q | simpa using q) H locs ls hH hS hL)
theorem A_icmp_ne {x y : Int32} {off : Int} (tgt : Nat) (hX : AOk l G X cc own nm nL R) (d : decode cc pc = .ok (.if_icmp .ne off, 3)) (ht : (pc : Int) + off = (tgt : Int)) (kt : ¬ x = y → AA G X cs ss tgt lv st σ) (kf : x = y → AA G X cs ss (pc + 3) lv st σ) : AA G X cs ss pc lv (.int y :: .int x :: st) σ := by
  obtain ⟨p, l', e, R', s, m, args, below, meth, c, Q⟩ := X
  obtain ⟨hx, hb, hml, hown, hts, hK, hb0, hnm, hll, hR⟩ := hX
  intro H locs ls hH hS hL
  exact lv_icmp_ne hx hb d ht (fun q => kt (by first | exact q | simpa using q) H locs ls hH hS hL) (fun q => kf (by first | exact q | simpa using q) H locs ls hH hS hL)
theorem A_if_lt {x : Int32} {off : Int} (tgt : Nat) (hX : AOk l G X cc own nm nL R) (d : decode cc pc = .ok (.ifCond .lt off, 3)) (ht : (pc : Int) + off = (tgt : Int)) (kt : x < 0 → AA G X cs ss tgt lv st σ) (kf : ¬ x < 0 → AA G X cs ss (pc + 3) lv st σ) : AA G X cs ss pc lv (.int x :: st) σ := by
  obtain ⟨p, l', e, R', s, m, args, below, meth, c, Q⟩ := X
  obtain ⟨hx, hb, hml, hown, hts, hK, hb0, hnm, hll, hR⟩ := hX
  intro H locs ls hH hS hL
  exact lv_if_lt hx hb d ht (fun q => kt (by first | exact q | simpa using q) H locs ls hH hS hL) (fun q => kf (by first | exact q | simpa using q) H locs ls hH hS hL)
theorem A_icmp_lt {x y : Int32} {off : Int} (tgt : Nat) (hX : AOk l G X cc own nm nL R) (d : decode cc pc = .ok (.if_icmp .lt off, 3)) (ht : (pc : Int) + off = (tgt : Int)) (kt : x < y → AA G X cs ss tgt lv st σ) (kf : ¬ x < y → AA G X cs ss (pc + 3) lv st σ) : AA G X cs ss pc lv (.int y :: .int x :: st) σ := by
  obtain ⟨p, l', e, R', s, m, args, below, meth, c, Q⟩ := X
  obtain ⟨hx, hb, hml, hown, hts, hK, hb0, hnm, hll, hR⟩ := hX
  intro H locs ls hH hS hL
  exact lv_icmp_lt hx hb d ht (fun q => kt (by first | exact q | simpa using q) H locs ls hH hS hL) (fun q => kf (by first | exact q | simpa using q) H locs ls hH hS hL)
theorem A_if_ge {x : Int32} {off : Int} (tgt : Nat) (hX : AOk l G X cc own nm nL R) (d : decode cc pc = .ok (.ifCond .ge off, 3)) (ht : (pc : Int) + off = (tgt : Int)) (kt : 0 ≤ x → AA G X cs ss tgt lv st σ) (kf : ¬ 0 ≤ x → AA G X cs ss (pc + 3) lv st σ) : AA G X cs ss pc lv (.int x :: st) σ := by
  obtain ⟨p, l', e, R', s, m, args, below, meth, c, Q⟩ := X
  obtain ⟨hx, hb, hml, hown, hts, hK, hb0, hnm, hll, hR⟩ := hX
  intro H locs ls hH hS hL
  exact lv_if_ge hx hb d ht (fun q => kt (by first | exact q | simpa using q) H locs ls hH hS hL) (fun q => kf (by first | exact q | simpa using q) H locs ls hH hS hL)
theorem A_icmp_ge {x y : Int32} {off : Int} (tgt : Nat) (hX : AOk l G X cc own nm nL R) (d : decode cc pc = .ok (.if_icmp .ge off, 3)) (ht : (pc : Int) + off = (tgt : Int)) (kt : y ≤ x → AA G X cs ss tgt lv st σ) (kf : ¬ y ≤ x → AA G X cs ss (pc + 3) lv st σ) : AA G X cs ss pc lv (.int y :: .int x :: st) σ := by
  obtain ⟨p, l', e, R', s, m, args, below, meth, c, Q⟩ := X
  obtain ⟨hx, hb, hml, hown, hts, hK, hb0, hnm, hll, hR⟩ := hX
  intro H locs ls hH hS hL
  exact lv_icmp_ge hx hb d ht (fun q => kt (by first | exact q | simpa using q) H locs ls hH hS hL) (fun q => kf (by first | exact q | simpa using q) H locs ls hH hS hL)
theorem A_if_gt {x : Int32} {off : Int} (tgt : Nat) (hX : AOk l G X cc own nm nL R) (d : decode cc pc = .ok (.ifCond .gt off, 3)) (ht : (pc : Int) + off = (tgt : Int)) (kt : 0 < x → AA G X cs ss tgt lv st σ) (kf : ¬ 0 < x → AA G X cs ss (pc + 3) lv st σ) : AA G X cs ss pc lv (.int x :: st) σ := by
  obtain ⟨p, l', e, R', s, m, args, below, meth, c, Q⟩ := X
  obtain ⟨hx, hb, hml, hown, hts, hK, hb0, hnm, hll, hR⟩ := hX
  intro H locs ls hH hS hL
  exact lv_if_gt hx hb d ht (fun q => kt (by first | exact q | simpa using q) H locs ls hH hS hL) (fun q => kf (by first | exact q | simpa using q) H locs ls hH hS hL)
theorem A_icmp_gt {x y : Int32} {off : Int} (tgt : Nat) (hX : AOk l G X cc own nm nL R) (d : decode cc pc = .ok (.if_icmp .gt off, 3)) (ht : (pc : Int) + off = (tgt : Int)) (kt : y < x → AA G X cs ss tgt lv st σ) (kf : ¬ y < x → AA G X cs ss (pc + 3) lv st σ) : AA G X cs ss pc lv (.int y :: .int x :: st) σ := by
  obtain ⟨p, l', e, R', s, m, args, below, meth, c, Q⟩ := X
  obtain ⟨hx, hb, hml, hown, hts, hK, hb0, hnm, hll, hR⟩ := hX
  intro H locs ls hH hS hL
  exact lv_icmp_gt hx hb d ht (fun q => kt (by first | exact q | simpa using q) H locs ls hH hS hL) (fun q => kf (by first | exact q | simpa using q) H locs ls hH hS hL)
theorem A_if_le {x : Int32} {off : Int} (tgt : Nat) (hX : AOk l G X cc own nm nL R) (d : decode cc pc = .ok (.ifCond .le off, 3)) (ht : (pc : Int) + off = (tgt : Int)) (kt : x ≤ 0 → AA G X cs ss tgt lv st σ) (kf : ¬ x ≤ 0 → AA G X cs ss (pc + 3) lv st σ) : AA G X cs ss pc lv (.int x :: st) σ := by
  obtain ⟨p, l', e, R', s, m, args, below, meth, c, Q⟩ := X
  obtain ⟨hx, hb, hml, hown, hts, hK, hb0, hnm, hll, hR⟩ := hX
  intro H locs ls hH hS hL
  exact lv_if_le hx hb d ht (fun q => kt (by first | exact q | simpa using q) H locs ls hH hS hL) (fun q => kf (by first | exact q | simpa using q) H locs ls hH hS hL)
theorem A_icmp_le {x y : Int32} {off : Int} (tgt : Nat) (hX : AOk l G X cc own nm nL R) (d : decode cc pc = .ok (.if_icmp .le off, 3)) (ht : (pc : Int) + off = (tgt : Int)) (kt : x ≤ y → AA G X cs ss tgt lv st σ) (kf : ¬ x ≤ y → AA G X cs ss (pc + 3) lv st σ) : AA G X cs ss pc lv (.int y :: .int x :: st) σ := by
  obtain ⟨p, l', e, R', s, m, args, below, meth, c, Q⟩ := X
  obtain ⟨hx, hb, hml, hown, hts, hK, hb0, hnm, hll, hR⟩ := hX
  intro H locs ls hH hS hL
  exact lv_icmp_le hx hb d ht (fun q => kt (by first | exact q | simpa using q) H locs ls hH hS hL) (fun q => kf (by first | exact q | simpa using q) H locs ls hH hS hL)
theorem A_ifnonnull {x : Nat} {off : Int} (tgt : Nat) (hX : AOk l G X cc own nm nL R) (d : decode cc pc = .ok (.ifnonnull off, 3)) (ht : (pc : Int) + off = (tgt : Int)) (k : AA G X cs ss tgt lv st σ) : AA G X cs ss pc lv (.ref x :: st) σ := by
  obtain ⟨p, l', e, R', s, m, args, below, meth, c, Q⟩ := X
  obtain ⟨hx, hb, hml, hown, hts, hK, hb0, hnm, hll, hR⟩ := hX
  intro H locs ls hH hS hL
  exact lv_ifnonnull hx hb d ht (k H locs ls hH hS hL)
theorem A_ifnonnullN {off : Int} (hX : AOk l G X cc own nm nL R) (d : decode cc pc = .ok (.ifnonnull off, 3)) (k : AA G X cs ss (pc + 3) lv st σ) : AA G X cs ss pc lv (.null :: st) σ := by
  obtain ⟨p, l', e, R', s, m, args, below, meth, c, Q⟩ := X
  obtain ⟨hx, hb, hml, hown, hts, hK, hb0, hnm, hll, hR⟩ := hX
  intro H locs ls hH hS hL
  exact lv_ifnonnullN hx hb d (k H locs ls hH hS hL)
theorem A_lookup {dflt : Int} {ps : Array (Int × Int)} {len : Nat} {x : Int32} {off : Int} (tgt : Nat) (hX : AOk l G X cc own nm nL R) (d : decode cc pc = .ok (.lookupswitch dflt ps, len)) (hp : (ps.toList.zip (ps.toList.drop 1)).all (fun (a, next) => a.1 < next.1) = true) (ho : Op.lookupswitch.offset ps.toList dflt x.toInt = off) (ht : (pc : Int) + off = (tgt : Int)) (k : AA G X cs ss tgt lv st σ) : AA G X cs ss pc lv (.int x :: st) σ := by
  obtain ⟨p, l', e, R', s, m, args, below, meth, c, Q⟩ := X
  obtain ⟨hx, hb, hml, hown, hts, hK, hb0, hnm, hll, hR⟩ := hX
  intro H locs ls hH hS hL
  exact lv_lookup hx hb d hp ho ht (k H locs ls hH hS hL)
theorem A_tabOut {dflt lo hi : Int} {offs : Array Int} {len : Nat} {x : Int32} (tgt : Nat) (hX : AOk l G X cc own nm nL R) (d : decode cc pc = .ok (.tableswitch dflt lo hi offs, len)) (h : x.toInt < lo ∨ hi < x.toInt) (ht : (pc : Int) + dflt = (tgt : Int)) (k : AA G X cs ss tgt lv st σ) : AA G X cs ss pc lv (.int x :: st) σ := by
  obtain ⟨p, l', e, R', s, m, args, below, meth, c, Q⟩ := X
  obtain ⟨hx, hb, hml, hown, hts, hK, hb0, hnm, hll, hR⟩ := hX
  intro H locs ls hH hS hL
  exact lv_tableOut hx hb d h ht (k H locs ls hH hS hL)
theorem A_tabIn {dflt lo hi : Int} {offs : Array Int} {len : Nat} {x : Int32} {off : Int} (tgt : Nat) (hX : AOk l G X cc own nm nL R) (d : decode cc pc = .ok (.tableswitch dflt lo hi offs, len)) (h1 : ¬ x.toInt < lo) (h2 : ¬ hi < x.toInt) (ho : offs[(x.toInt - lo).toNat]? = some off) (ht : (pc : Int) + off = (tgt : Int)) (k : AA G X cs ss tgt lv st σ) : AA G X cs ss pc lv (.int x :: st) σ := by
  obtain ⟨p, l', e, R', s, m, args, below, meth, c, Q⟩ := X
  obtain ⟨hx, hb, hml, hown, hts, hK, hb0, hnm, hll, hR⟩ := hX
  intro H locs ls hH hS hL
  exact lv_tableIn hx hb d h1 h2 ho ht (k H locs ls hH hS hL)
theorem A_getf {idx ci j a : Nat} {fs : List Value} {v : Value} (hX : AOk l G X cc own nm nL R) (hf : LkF own idx ci j) (d : decode cc pc = .ok (.getfield idx, 3)) (h : σ.2 a = some (aO ci fs)) (hv : fs[j]? = some v) (k : AA G X cs ss (pc + 3) lv (v :: st) σ) : AA G X cs ss pc lv (.ref a :: st) σ := by
  obtain ⟨C, T, N, ref, f1, f2, f3, f4, f5⟩ := hf
  obtain ⟨p, l', e, R', s, m, args, below, meth, c, Q⟩ := X
  obtain ⟨hx, hb, hml, hown, hts, hK, hb0, hnm, hll, hR⟩ := hX
  intro H locs ls hH hS hL
  have hP1 : ∀ {a : Nat} {e : va_E}, σ.2 a = some e → va_P G.1 vwCl [(a, e)] H := fun h k q hq => by
    match k, hq with
    | 0, hq => cases hq; exact (hH.2 _ _ h).2
    | k + 1, hq => simp at hq
  have hsame : ∀ x, s.fieldFound? (T j).1 (T j).2.1 (T j).2.2.1 = some x → s.fieldFound? ref (T j).2.1 (T j).2.2.1 = some x := by
    rcases f5 with rfl | f5
    · exact fun _ h => h
    · exact u_same (hts _ f5)
  rcases f4 with f4 | ⟨host, f4⟩
  · exact va_get (Ts := lw_u) hx hb hts f3 hown hK.1 (hP1 h) 0 rfl f1 j f2 (hts _ f4) hsame hv d (k H locs ls hH hS hL)
  · exact va_getN (Ts := lw_u) hx hb hts f3 hown hK.1 (hP1 h) 0 rfl f1 j f2 (hts _ f4) hsame hv d (k H locs ls hH hS hL)
theorem A_iald {a n : Nat} {f : Nat → Int32} {i : Int32} (hX : AOk l G X cc own nm nL R) (d : decode cc pc = .ok (.iaload, 1)) (h : σ.2 a = some (aI G n f)) (hin : vp_in i n) (k : AA G X cs ss (pc + 1) lv (.int (f i.toNatClampNeg) :: st) σ) : AA G X cs ss pc lv (.int i :: .ref a :: st) σ := by
  obtain ⟨p, l', e, R', s, m, args, below, meth, c, Q⟩ := X
  obtain ⟨hx, hb, hml, hown, hts, hK, hb0, hnm, hll, hR⟩ := hX
  intro H locs ls hH hS hL
  have hP1 : ∀ {a : Nat} {e : va_E}, σ.2 a = some e → va_P G.1 vwCl [(a, e)] H := fun h k q hq => by
    match k, hq with
    | 0, hq => cases hq; exact (hH.2 _ _ h).2
    | k + 1, hq => simp at hq
  exact va_iald hx hb hK.1 (hP1 h) 0 0 rfl rfl hin d (k H locs ls hH hS hL)
theorem A_bald {a n : Nat} {f : Nat → Int32} {i : Int32} (hX : AOk l G X cc own nm nL R) (d : decode cc pc = .ok (.baload, 1)) (h : σ.2 a = some (aB G n f)) (hin : vp_in i n) (k : AA G X cs ss (pc + 1) lv (.int (f i.toNatClampNeg) :: st) σ) : AA G X cs ss pc lv (.int i :: .ref a :: st) σ := by
  obtain ⟨p, l', e, R', s, m, args, below, meth, c, Q⟩ := X
  obtain ⟨hx, hb, hml, hown, hts, hK, hb0, hnm, hll, hR⟩ := hX
  intro H locs ls hH hS hL
  have hP1 : ∀ {a : Nat} {e : va_E}, σ.2 a = some e → va_P G.1 vwCl [(a, e)] H := fun h k q hq => by
    match k, hq with
    | 0, hq => cases hq; exact (hH.2 _ _ h).2
    | k + 1, hq => simp at hq
  exact va_bald hx hb hK.1 (hP1 h) 0 1 rfl rfl hin d (k H locs ls hH hS hL)
theorem A_aald {a n : Nat} {f : Nat → Option Nat} {i : Int32} {v : Value} (hX : AOk l G X cc own nm nL R) (d : decode cc pc = .ok (.aaload, 1)) (h : σ.2 a = some (aR G n f)) (hin : vp_in i n) (hv : va_rf (f i.toNatClampNeg) = v) (k : AA G X cs ss (pc + 1) lv (v :: st) σ) : AA G X cs ss pc lv (.int i :: .ref a :: st) σ := by
  obtain ⟨p, l', e, R', s, m, args, below, meth, c, Q⟩ := X
  obtain ⟨hx, hb, hml, hown, hts, hK, hb0, hnm, hll, hR⟩ := hX
  subst hv
  intro H locs ls hH hS hL
  have hP1 : ∀ {a : Nat} {e : va_E}, σ.2 a = some e → va_P G.1 vwCl [(a, e)] H := fun h k q hq => by
    match k, hq with
    | 0, hq => cases hq; exact (hH.2 _ _ h).2
    | k + 1, hq => simp at hq
  exact va_aldq hx hb hK.1 (hP1 h) 0 2 rfl rfl hin d (k H locs ls hH hS hL)
theorem A_alenI {a n : Nat} {f : Nat → Int32} (hX : AOk l G X cc own nm nL R) (d : decode cc pc = .ok (.arraylength, 1)) (h : σ.2 a = some (aI G n f)) (k : AA G X cs ss (pc + 1) lv (.int (nI n) :: st) σ) : AA G X cs ss pc lv (.ref a :: st) σ := by
  obtain ⟨p, l', e, R', s, m, args, below, meth, c, Q⟩ := X
  obtain ⟨hx, hb, hml, hown, hts, hK, hb0, hnm, hll, hR⟩ := hX
  intro H locs ls hH hS hL
  have hP1 : ∀ {a : Nat} {e : va_E}, σ.2 a = some e → va_P G.1 vwCl [(a, e)] H := fun h k q hq => by
    match k, hq with
    | 0, hq => cases hq; exact (hH.2 _ _ h).2
    | k + 1, hq => simp at hq
  exact va_alen hx hb hK.1 (hP1 h) 0 0 rfl rfl rfl d (k H locs ls hH hS hL)
theorem A_alenQ {a n : Nat} {f : Nat → Option Nat} (hX : AOk l G X cc own nm nL R) (d : decode cc pc = .ok (.arraylength, 1)) (h : σ.2 a = some (aR G n f)) (k : AA G X cs ss (pc + 1) lv (.int (nI n) :: st) σ) : AA G X cs ss pc lv (.ref a :: st) σ := by
  obtain ⟨p, l', e, R', s, m, args, below, meth, c, Q⟩ := X
  obtain ⟨hx, hb, hml, hown, hts, hK, hb0, hnm, hll, hR⟩ := hX
  intro H locs ls hH hS hL
  have hP1 : ∀ {a : Nat} {e : va_E}, σ.2 a = some e → va_P G.1 vwCl [(a, e)] H := fun h k q hq => by
    match k, hq with
    | 0, hq => cases hq; exact (hH.2 _ _ h).2
    | k + 1, hq => simp at hq
  exact va_alen hx hb hK.1 (hP1 h) 0 2 rfl rfl rfl d (k H locs ls hH hS hL)
theorem A_iast {a n : Nat} {f : Nat → Int32} {i x : Int32} (hX : AOk l G X cc own nm nL R) (d : decode cc pc = .ok (.iastore, 1)) (h : σ.2 a = some (aI G n f)) (hin : vp_in i n) (k : AA G X cs ss (pc + 1) lv st (aSet σ a (aI G n (upd f i.toNatClampNeg x)))) : AA G X cs ss pc lv (.int x :: .int i :: .ref a :: st) σ := by
  obtain ⟨p, l', e, R', s, m, args, below, meth, c, Q⟩ := X
  obtain ⟨hx, hb, hml, hown, hts, hK, hb0, hnm, hll, hR⟩ := hX
  intro H locs ls hH hS hL
  refine W.iast hx hb (hH.2 _ _ h).2 ((hK.1.2 0 _ rfl).1 n (fun j => .int (f j))) (fun q => by cases q) (by show ¬ (i < 0 ∨ (arrV _ _ _).slots.size ≤ _); rw [arrV_size]; exact hin) rfl rfl d fun H1 e1 z oq => ?_
  refine k H1 _ ls (hH.set h z ?_ oq) (hS.put z oq (hH.2 _ _ h).1) hL
  show H1[a]? = some (vp_cell _ _)
  rw [e1, vp_cell_i, vp_cell_i, arrV_store]
  congr 2
  funext q
  by_cases hq : q = i.toNatClampNeg
  · subst hq
    simp [updV, upd]
  · simp [updV, upd, hq]
theorem A_bast {a n : Nat} {f : Nat → Int32} {i x : Int32} (hX : AOk l G X cc own nm nL R) (d : decode cc pc = .ok (.bastore, 1)) (h : σ.2 a = some (aB G n f)) (hin : vp_in i n) (k : AA G X cs ss (pc + 1) lv st (aSet σ a (aB G n (upd f i.toNatClampNeg (vp_nar .byte x))))) : AA G X cs ss pc lv (.int x :: .int i :: .ref a :: st) σ := by
  obtain ⟨p, l', e, R', s, m, args, below, meth, c, Q⟩ := X
  obtain ⟨hx, hb, hml, hown, hts, hK, hb0, hnm, hll, hR⟩ := hX
  intro H locs ls hH hS hL
  refine W.bast hx hb (hH.2 _ _ h).2 ((hK.1.2 1 _ rfl).1 n (fun j => .int (f j))) (fun q => by cases q) (by show ¬ (i < 0 ∨ (arrV _ _ _).slots.size ≤ _); rw [arrV_size]; exact hin) rfl rfl d fun H1 e1 z oq => ?_
  refine k H1 _ ls (hH.set h z ?_ oq) (hS.put z oq (hH.2 _ _ h).1) hL
  show H1[a]? = some (vp_cell _ _)
  rw [e1, vp_cell_i, vp_cell_i, arrV_store]
  congr 2
  funext q
  by_cases hq : q = i.toNatClampNeg
  · subst hq
    simp [updV, upd, vp_nar]
    try rfl
  · simp [updV, upd, hq]
theorem A_aast {a n v ci : Nat} {f : Nat → Option Nat} {i : Int32} {vs : List Value} {C : String} {T : u_T} {N : Nat} (hX : AOk l G X cc own nm nL R) (d : decode cc pc = .ok (.aastore, 1)) (h : σ.2 a = some (aR G n f)) (hin : vp_in i n) (hv : σ.2 v = some (aO ci vs)) (hc : vwCl[ci]? = some (C, T, N)) (hca : C = RX0 ∨ Cond.castable C RX0 ∈ lw_u) (k : AA G X cs ss (pc + 1) lv st (aSet σ a (aR G n (va_up f i.toNatClampNeg (some v))))) : AA G X cs ss pc lv (.ref v :: .int i :: .ref a :: st) σ := by
  obtain ⟨p, l', e, R', s, m, args, below, meth, c, Q⟩ := X
  obtain ⟨hx, hb, hml, hown, hts, hK, hb0, hnm, hll, hR⟩ := hX
  intro H locs ls hH hS hL
  have hlt : i.toNatClampNeg < n := Nat.not_le.mp fun q => hin (Or.inr q)
  have h0 : ¬ i < 0 := fun q => hin (Or.inl q)
  obtain ⟨r', hr', cellV, g1, g2, g3, -⟩ := (hH.2 _ _ hv).2
  have hcls := (hK.1.1 ci _ hc).2
  obtain ⟨kA, comp, k1, k2, k3, -⟩ := (hK.1.2 2 (gQ G, .object RX0) rfl).2
  obtain ⟨kE, hkE, -⟩ := Vm.findClass_spec k3
  have f3 : s.vm.assignable (G.1.1 ci) comp = true := by
    rcases hca with rfl | hca
    · cases k3.symm.trans hcls.1
      exact va_assign hcls
    · obtain ⟨c0, t1, f1, f2, f3⟩ := Cond.castable_spec (hts _ hca)
      cases hcls.1.symm.trans f1
      cases k3.symm.trans f2
      exact f3
  obtain ⟨kC, hkC, -⟩ := hcls.2
  refine W.aast hx hb (hH.2 _ _ h).2 (fun q h => by cases h) (fun h => by cases h) k1 k2 rfl hkE ⟨h0, by show _ < (arrV _ _ _).slots.size; rw [arrV_size]; exact hlt⟩ g1 (fun q h => by rw [g3] at h; cases h) (by rw [g2]; exact hkC) (by rw [g2]; exact f3) rfl rfl d fun H1 e1 z oq => ?_
  refine k H1 _ ls (hH.set h z ?_ oq) (hS.put z oq (hH.2 _ _ h).1) hL
  show H1[a]? = some (vp_cell _ _)
  rw [e1, vp_cell_q, vp_cell_q, arrV_store]
  congr 2
  funext q
  by_cases hq : q = i.toNatClampNeg
  · subst hq
    simp [updV, va_up, va_rf]
  · simp [updV, va_up, hq]
theorem A_putf {idx ci j a : Nat} {ty : FieldType} {fs fs' : List Value} {v : Value} (hX : AOk l G X cc own nm nL R) (hf : LkP own idx ci j ty false) (d : decode cc pc = .ok (.putfield idx, 3)) (h : σ.2 a = some (aO ci fs)) (hl : j < fs.length) (he : fs.set j v = fs') (hn : narrow ty v = v) (hfit : fits ty v = true) (k : AA G X cs ss (pc + 3) lv st (aSet σ a (aO ci fs'))) : AA G X cs ss pc lv (v :: .ref a :: st) σ := by
  obtain ⟨C, T, N, ty0, f1, f2, f3, f4, f5, f6, f7, f8, f9⟩ := hf
  subst f8
  subst he
  obtain ⟨p, l', e, R', s, m, args, below, meth, c, Q⟩ := X
  obtain ⟨hx, hb, hml, hown, hts, hK, hb0, hnm, hll, hR⟩ := hX
  intro H locs ls hH hS hL
  have hap := va_apart (own := own) (Ts := lw_u) hts f3 ty0 f5 f6 hK.1 f1
  obtain ⟨r, h1, cell, q1, q2, q3, q4⟩ := (hH.2 _ _ h).2
  cases h1.symm.trans f1
  obtain ⟨hS1, hfc, kC, hkC, hkind⟩ := hK.1.1 ci _ f1
  obtain ⟨cf, kf, fi, f, hi, hsl⟩ := hS1 j f2
  have hlay := hts _ (f3 _ (u_in_lay f2))
  unfold u_lay at hlay
  rw [if_neg (by rw [f7]; decide)] at hlay
  have hst := (u_facts hfc hkC (u_lays hts f3 f2) hi).1
  have h6 := u_store hfc hkC hkind hlay hi (f5 j f2) hn hfit
  have fin : ∀ (H1 : Heap), H1[a]? = some (cell.setSlot f.slot v) → H1.size = H.size → (∀ q, q ≠ a → H1[q]? = H[q]?) → W p l' e R' s m args below meth c H1 (locs ++ [⟨a, f.slot⟩]) cs ss Q (F0 m (pc + 3) ls st) := by
    intro H1 e1 e2 e3
    refine k H1 _ ls (hH.set h e2 ?_ e3) (hS.put e2 e3 (hH.2 _ _ h).1) hL
    rw [hsl] at e1
    exact ⟨_, f1, t_OB.to (V := updV (vp_V fs) j v) ⟨_, e1, q2, q3, t_set q4 hap f2 v⟩ (fun j' _ => vp_updV_set hl v j')⟩
  rcases f4 with f4 | ⟨host, f4⟩
  · exact W.putK hx hb (f := f) ⟨hown, hts _ f4, ⟨_, _, _, hi⟩, hst⟩ (by rw [q2]; exact h6) q1 q3 (by rw [hsl]; exact k2_hasslot (q4 j f2)) rfl rfl d fin
  · exact va_WputK hx hb (f := f) hown (hts _ f4) hi hst (by rw [q2]; exact h6) q1 q3 (by rw [hsl]; exact k2_hasslot (q4 j f2)) rfl rfl d fin
theorem A_putF {idx ci j a : Nat} {ty : FieldType} {fs fs' : List Value} {v : Value} (hX : AOk l G X cc own "<init>" nL R) (hf : LkP own idx ci j ty true) (d : decode cc pc = .ok (.putfield idx, 3)) (h : σ.2 a = some (aO ci fs)) (hl : j < fs.length) (he : fs.set j v = fs') (hn : narrow ty v = v) (hfit : fits ty v = true) (k : AA G X cs ss (pc + 3) lv st (aSet σ a (aO ci fs'))) : AA G X cs ss pc lv (v :: .ref a :: st) σ := by
  obtain ⟨C, T, N, ty0, f1, f2, f3, f4, f5, f6, f7, f8, f9⟩ := hf
  subst f8
  subst he
  have hdecl := f9 rfl
  obtain ⟨p, l', e, R', s, m, args, below, meth, c, Q⟩ := X
  obtain ⟨hx, hb, hml, hown, hts, hK, hb0, hnm, hll, hR⟩ := hX
  intro H locs ls hH hS hL
  have hap := va_apart (own := own) (Ts := lw_u) hts f3 ty0 f5 f6 hK.1 f1
  obtain ⟨r, h1, cell, q1, q2, q3, q4⟩ := (hH.2 _ _ h).2
  cases h1.symm.trans f1
  obtain ⟨hS1, hfc, kC, hkC, hkind⟩ := hK.1.1 ci _ f1
  obtain ⟨cf, kf, fi, f, hi, hsl⟩ := hS1 j f2
  have hlay := hts _ (f3 _ (u_in_lay f2))
  unfold u_lay at hlay
  rw [if_pos f7] at hlay
  have hst := (u_facts hfc hkC (u_lays hts f3 f2) hi).1
  have hcf : m.cls = cf := by
    obtain ⟨_, _, c', _, _, _, -, -, hf', -, -, -, hown2, -⟩ := Cond.laysFinal_spec hlay
    have e1 : c' = cf := by have := hi.symm.trans hf'; simp at this; exact this.1.symm
    rw [hdecl] at hown2
    rw [← e1]; exact Option.some.inj (hown.symm.trans hown2)
  have h6 := u_fits hfc hkC hkind (Or.inr hlay) hi (f5 j f2) hn hfit
  rcases f4 with f4 | ⟨host, f4⟩
  · refine W.putFinK hx hb hown (hts _ f4) hi hst hcf hnm (by rw [q2]; exact h6) q1 q3 (by rw [hsl]; exact k2_hasslot (q4 j f2)) rfl rfl d fun H1 e1 e2 e3 => ?_
    refine k H1 _ ls (hH.set h e2 ?_ e3) (hS.put e2 e3 (hH.2 _ _ h).1) hL
    rw [hsl] at e1
    exact ⟨_, f1, t_OB.to (V := updV (vp_V fs) j v) ⟨_, e1, q2, q3, t_set q4 hap f2 v⟩ (fun j' _ => vp_updV_set hl v j')⟩
  · refine va_Wputf hx hb hown (hts _ f4) hi hst (Or.inr ⟨hcf, hnm⟩) q1 (by rw [q3]; exact fun h => by cases h) (by rw [hsl]; exact k2_hasslot (q4 j f2)) h6.1 (by rw [q3, q2]; exact h6.2) rfl rfl d ?_
    have ha : a < H.size := (Array.getElem?_eq_some_iff.mp q1).1
    have e1 : (H.setIfInBounds a (cell.setSlot f.slot v))[a]? = some (cell.setSlot f.slot v) := by simp [Array.getElem?_setIfInBounds, ha]
    have e2 : (H.setIfInBounds a (cell.setSlot f.slot v)).size = H.size := by simp
    have e3 : ∀ q, q ≠ a → (H.setIfInBounds a (cell.setSlot f.slot v))[q]? = H[q]? := fun q hq => by simp [Array.getElem?_setIfInBounds, Ne.symm hq]
    refine k _ _ ls (hH.set h e2 ?_ e3) (hS.put e2 e3 (hH.2 _ _ h).1) hL
    rw [hsl] at e1 ⊢
    exact ⟨_, f1, t_OB.to (V := updV (vp_V fs) j v) ⟨_, e1, q2, q3, t_set q4 hap f2 v⟩ (fun j' _ => vp_updV_set hl v j')⟩
theorem A_new {idx ci N : Nat} {fs : List Value} (hX : AOk l G X cc own nm nL R) (hw : LkN own idx ci N) (d : decode cc pc = .ok (.new idx, 3)) (hfs : ∀ C T, vwCl[ci]? = some (C, T, N) → ∀ j, j < N → (parseFieldDescriptor (T j).2.2.1).map defaultValue = some (vp_V fs j)) (hc : cs + 1 ≤ R.cells) (hs : ss + N ≤ R.slots) (k : AA G X (cs + 1) (ss + N) (pc + 3) lv (.ref σ.1 :: st) (aNew σ (aO ci fs))) : AA G X cs ss pc lv st σ := by
  obtain ⟨C, T, ty0, f1, f2, f3, f4, f5, f6⟩ := hw
  obtain ⟨p, l', e, R', s, m, args, below, meth, c, Q⟩ := X
  obtain ⟨hx, hb, hml, hown, hts, hK, hb0, hnm, hll, hR⟩ := hX
  intro H locs ls hH hS hL
  subst hR
  have hKn := hK.1.1 ci _ f1
  refine W.newcK hx hb hown (hts _ f4) (hts _ f5) (hts _ f6) rfl d hc hs hKn.2.1 hH.1 fun H1 kC hkC e1 z1 o1 => ?_
  rw [← hH.1] at e1 z1 o1
  refine k H1 locs ls (hH.new (Nat.le_trans hb0 (by rw [← hH.1]; exact hS.1)) z1 ?_ o1) ⟨Nat.le_trans hS.1 (by omega), fun x h1 h2 => (o1 x (Nat.lt_of_lt_of_le h1 hS.1)).trans (hS.2.1 x h1 h2), hS.2.2⟩ hL
  refine ⟨_, f1, (u_born ty0 hts f2 hKn hkC e1 f3).to fun j hj => ?_⟩
  have := hfs C T f1 j hj
  rw [f3 j hj] at this
  exact Option.some.inj this
theorem A_newI {n : Int32} {N : Nat} (hX : AOk l G X cc own nm nL R) (d : decode cc pc = .ok (.newarray .int, 2)) (hn : ¬ n < 0) (hN : n.toNatClampNeg = N) (hB : N ≤ 100000) (hc : cs + 1 ≤ R.cells) (hs : ss + N ≤ R.slots) (k : AA G X (cs + 1) (ss + N) (pc + 2) lv (.ref σ.1 :: st) (aNew σ (aI G N (fun _ => 0)))) : AA G X cs ss pc lv (.int n :: st) σ := by
  obtain ⟨p, l', e, R', s, m, args, below, meth, c, Q⟩ := X
  obtain ⟨hx, hb, hml, hown, hts, hK, hb0, hnm, hll, hR⟩ := hX
  intro H locs ls hH hS hL
  subst hR
  refine va_newaK (atype := .int) hx hb (hts _ ac_int) rfl d rfl hn hN (by show N * 4 ≤ 536870912; omega) hc hs hH.1 fun H1 cA e1 z1 o1 hAr hNm => ?_
  rw [← hH.1] at e1 z1 o1
  have hcA : cA = gI G := Option.some.inj (hNm.symm.trans (hK.1.2 0 (gI G, .int) rfl).2)
  subst hcA
  exact k H1 locs ls (hH.new (Nat.le_trans hb0 (by rw [← hH.1]; exact hS.1)) z1 e1 o1) ⟨Nat.le_trans hS.1 (by omega), fun x h1 h2 => (o1 x (Nat.lt_of_lt_of_le h1 hS.1)).trans (hS.2.1 x h1 h2), hS.2.2⟩ hL
theorem A_newB {n : Int32} {N : Nat} (hX : AOk l G X cc own nm nL R) (d : decode cc pc = .ok (.newarray .byte, 2)) (hn : ¬ n < 0) (hN : n.toNatClampNeg = N) (hB : N ≤ 100000) (hc : cs + 1 ≤ R.cells) (hs : ss + N ≤ R.slots) (k : AA G X (cs + 1) (ss + N) (pc + 2) lv (.ref σ.1 :: st) (aNew σ (aB G N (fun _ => 0)))) : AA G X cs ss pc lv (.int n :: st) σ := by
  obtain ⟨p, l', e, R', s, m, args, below, meth, c, Q⟩ := X
  obtain ⟨hx, hb, hml, hown, hts, hK, hb0, hnm, hll, hR⟩ := hX
  intro H locs ls hH hS hL
  subst hR
  refine va_newaK (atype := .byte) hx hb (hts _ ac_byte) rfl d rfl hn hN (by show N * 1 ≤ 536870912; omega) hc hs hH.1 fun H1 cA e1 z1 o1 hAr hNm => ?_
  rw [← hH.1] at e1 z1 o1
  have hcA : cA = gB G := Option.some.inj (hNm.symm.trans (hK.1.2 1 (gB G, .byte) rfl).2)
  subst hcA
  exact k H1 locs ls (hH.new (Nat.le_trans hb0 (by rw [← hH.1]; exact hS.1)) z1 e1 o1) ⟨Nat.le_trans hS.1 (by omega), fun x h1 h2 => (o1 x (Nat.lt_of_lt_of_le h1 hS.1)).trans (hS.2.1 x h1 h2), hS.2.2⟩ hL
theorem A_newQ {n : Int32} {N idx : Nat} (hX : AOk l G X cc own nm nL R) (hw : Cond.classLink own idx RX0 ∈ lw_u) (d : decode cc pc = .ok (.anewarray idx, 3)) (hn : ¬ n < 0) (hN : n.toNatClampNeg = N) (hB : N ≤ 100000) (hc : cs + 1 ≤ R.cells) (hs : ss + N ≤ R.slots) (k : AA G X (cs + 1) (ss + N) (pc + 3) lv (.ref σ.1 :: st) (aNew σ (aR G N (fun _ => none)))) : AA G X cs ss pc lv (.int n :: st) σ := by
  subst hN
  obtain ⟨p, l', e, R', s, m, args, below, meth, c, Q⟩ := X
  obtain ⟨hx, hb, hml, hown, hts, hK, hb0, hnm, hll, hR⟩ := hX
  intro H locs ls hH hS hL
  subst hR
  refine W.anew hx hb hown (hts _ hw) (hts _ ao_Adder) rfl d rfl hn (by omega) hc hs fun cA kA comp f1 f2 f3 f4 => ?_
  obtain ⟨kA', comp', k1, k2, k3, k4⟩ := (hK.1.2 2 (gQ G, .object RX0) rfl).2
  have hcA : cA = gQ G := Option.some.inj (f1.symm.trans k4)
  subst hcA
  generalize hH1 : H.push ({ cls := gQ G, slots := Array.replicate n.toNatClampNeg .null, vm := .none } : Cell) = H1
  have z1 : H1.size = H.size + 1 := by rw [← hH1, Array.size_push]
  have e1 : H1[H.size]? = some (arrV (gQ G) n.toNatClampNeg (fun _ => .null)) := by rw [← hH1, Array.getElem?_push_size, ← arrV_new]
  have o1 : ∀ q : Nat, q < H.size → H1[q]? = H[q]? := fun q hq => by rw [← hH1, Array.getElem?_push, if_neg (Nat.ne_of_lt hq)]
  have := k H1 locs ls (hH.new (Nat.le_trans hb0 (by rw [← hH.1]; exact hS.1)) z1 e1 o1) ⟨Nat.le_trans hS.1 (by omega), fun x h1 h2 => (o1 x (Nat.lt_of_lt_of_le h1 hS.1)).trans (hS.2.1 x h1 h2), hS.2.2⟩ hL
  rw [← hH.1] at this
  exact this
theorem A_instY {idx ci a : Nat} {fs : List Value} {C nm' : String} {T : u_T} {N : Nat} (hX : AOk l G X cc own nm nL R) (hw : Cond.classLink own idx nm' ∈ lw_u) (d : decode cc pc = .ok (.instanceof idx, 3)) (h : σ.2 a = some (aO ci fs)) (hc : vwCl[ci]? = some (C, T, N)) (hca : C = nm' ∨ Cond.castable C nm' ∈ lw_u) (k : AA G X cs ss (pc + 3) lv (.int 1 :: st) σ) : AA G X cs ss pc lv (.ref a :: st) σ := by
  obtain ⟨p, l', e, R', s, m, args, below, meth, c, Q⟩ := X
  obtain ⟨hx, hb, hml, hown, hts, hK, hb0, hnm, hll, hR⟩ := hX
  intro H locs ls hH hS hL
  have hP1 : ∀ {a : Nat} {e : va_E}, σ.2 a = some e → va_P G.1 vwCl [(a, e)] H := fun h k q hq => by
    match k, hq with
    | 0, hq => cases hq; exact (hH.2 _ _ h).2
    | k + 1, hq => simp at hq
  rcases hca with rfl | hca
  · exact va_instS hx hb hown (hts _ hw) (hK.1.1 ci _ hc).2 (va_recv hK.1 (hP1 h) (q0 := 0) hc rfl) d (k H locs ls hH hS hL)
  · exact va_instY hx hb hown (hts _ hw) (va_Nw.of rfl (hts _ hca)) (va_recv hK.1 (hP1 h) (q0 := 0) hc rfl) d (k H locs ls hH hS hL)
theorem A_instN {idx ci a : Nat} {fs : List Value} {C nm' : String} {T : u_T} {N : Nat} (hX : AOk l G X cc own nm nL R) (hw : Cond.classLink own idx nm' ∈ lw_u) (d : decode cc pc = .ok (.instanceof idx, 3)) (h : σ.2 a = some (aO ci fs)) (hc : vwCl[ci]? = some (C, T, N)) (hca : (C, nm') ∈ ncs) (k : AA G X cs ss (pc + 3) lv (.int 0 :: st) σ) : AA G X cs ss pc lv (.ref a :: st) σ := by
  obtain ⟨p, l', e, R', s, m, args, below, meth, c, Q⟩ := X
  obtain ⟨hx, hb, hml, hown, hts, hK, hb0, hnm, hll, hR⟩ := hX
  intro H locs ls hH hS hL
  have hP1 : ∀ {a : Nat} {e : va_E}, σ.2 a = some e → va_P G.1 vwCl [(a, e)] H := fun h k q hq => by
    match k, hq with
    | 0, hq => cases hq; exact (hH.2 _ _ h).2
    | k + 1, hq => simp at hq
  exact va_instNo hx hb hown (hts _ hw) (hK.2.1 _ hca) (va_recv hK.1 (hP1 h) (q0 := 0) hc rfl) d (k H locs ls hH hS hL)
theorem A_objInit {idx a : Nat} (hX : AOk l G X cc own nm nL R) (hw : Cond.methodLink own idx objectInit ∈ lw_u) (d : decode cc pc = .ok (.invokespecial idx, 3)) (hlen : lv.length = nL) (hfr : 1 ≤ R.frames) (hlo : (st.map fun v => v.category).sum + 12 ≤ R.locals) (k : AA G X cs ss (pc + 3) lv st σ) : AA G X cs ss pc lv (.ref a :: st) σ := by
  obtain ⟨p, l', e, R', s, m, args, below, meth, c, Q⟩ := X
  obtain ⟨hx, hb, hml, hown, hts, hK, hb0, hnm, hll, hR⟩ := hX
  intro H locs ls hH hS hL
  subst hR
  exact W.objInit hx hb hown (hts _ hw) (hts _ oi_inst) (hts _ oi_code) rfl (by rw [hml, ← hlen]; exact hL.1) rfl d hfr (by simpa [JFrame.monitorRoom] using hlo) (k H locs ls hH hS hL)
theorem A_widen {cs' ss' : Nat} (h1 : cs ≤ cs') (h2 : ss ≤ ss') (k : AA G X cs' ss' pc lv st σ) : AA G X cs ss pc lv st σ := by
  obtain ⟨p, l', e, R', s, m, args, below, meth, c, Q⟩ := X
  intro H locs ls hH hS hL
  exact W.widen h1 h2 (k H locs ls hH hS hL)
/-! ends -/
theorem A_iret {P : Option Value → aS → Prop} {ret : Option FieldType} {ty : FieldType} {x : Int32} (hX : AOk l G X cc own nm nL R) (hr : ARt G X P ret cs ss) (d : decode cc pc = .ok (.ireturn, 1)) (hret : ret = some ty) (hn : narrow ty (.int x) = .int x) (h : P (some (.int x)) σ) : AA G X cs ss pc lv [.int x] σ := by
  obtain ⟨p, l', e, R', s, m, args, below, meth, c, Q⟩ := X
  obtain ⟨hx, hb, hml, hown, hts, hK, hb0, hnm, hll, hR⟩ := hX
  obtain ⟨rfl, hr2, hlocks⟩ := hr
  intro H locs ls hH hS hL
  exact W.zret hx hb (hr2.trans hret) hn (fun t ht hW => ⟨⟨_, σ, rfl, h, by rw [ht]; exact hH⟩, hS.F ht⟩) hS.2.2 d
theorem A_lret {P : Option Value → aS → Prop} {x : Int64} (hX : AOk l G X cc own nm nL R) (hr : ARt G X P (some .long) cs ss) (d : decode cc pc = .ok (.lreturn, 1)) (h : P (some (.long x)) σ) : AA G X cs ss pc lv [.long x] σ := by
  obtain ⟨p, l', e, R', s, m, args, below, meth, c, Q⟩ := X
  obtain ⟨hx, hb, hml, hown, hts, hK, hb0, hnm, hll, hR⟩ := hX
  obtain ⟨rfl, hr2, hlocks⟩ := hr
  intro H locs ls hH hS hL
  exact W.lret hx hb hr2 (fun t ht hW => ⟨⟨_, σ, rfl, h, by rw [ht]; exact hH⟩, hS.F ht⟩) hS.2.2 d
theorem A_aret {P : Option Value → aS → Prop} {C : String} {v : Value} (hX : AOk l G X cc own nm nL R) (hr : ARt G X P (some (.object C)) cs ss) (d : decode cc pc = .ok (.areturn, 1)) (hv : v = .null ∨ ∃ a, v = .ref a) (h : P (some v) σ) : AA G X cs ss pc lv [v] σ := by
  obtain ⟨p, l', e, R', s, m, args, below, meth, c, Q⟩ := X
  obtain ⟨hx, hb, hml, hown, hts, hK, hb0, hnm, hll, hR⟩ := hX
  obtain ⟨rfl, hr2, hlocks⟩ := hr
  intro H locs ls hH hS hL
  exact W.aret hx hb hr2 (Or.inl ⟨_, rfl⟩) hv (fun t ht hW => ⟨⟨_, σ, rfl, h, by rw [ht]; exact hH⟩, hS.F ht⟩) hS.2.2 d
theorem A_ret {P : Option Value → aS → Prop} (hX : AOk l G X cc own nm nL R) (hr : ARt G X P none cs ss) (d : decode cc pc = .ok (.return_, 1)) (h : P none σ) : AA G X cs ss pc lv [] σ := by
  obtain ⟨p, l', e, R', s, m, args, below, meth, c, Q⟩ := X
  obtain ⟨hx, hb, hml, hown, hts, hK, hb0, hnm, hll, hR⟩ := hX
  obtain ⟨rfl, hr2, hlocks⟩ := hr
  intro H locs ls hH hS hL
  exact W.vret hx hb hr2 (fun t ht hW => ⟨⟨_, σ, rfl, h, by rw [ht]; exact hH⟩, hS.F ht⟩) hS.2.2 d
/-! calls -/
theorem aa_back {p : Program} {l : Launch} {e : Env} {R : Room} {s : State} {m : MethodId} {args : Array Value} {below : List Frame} {meth : Method} {c : Code} {H : Heap} {locs : List Loc} {cs ss mc ms : Nat} {Q : State → Prop} {G : aG} {P : Option Value → aS → Prop} {a : Array Value} {pc : Nat} {ls : Array Slot} {st0 rest : List Value}
    (hr : va_Run p l e R s m args below meth c H locs cs ss mc ms (F0 m pc ls st0) rest (Qm G P a) (aA G)) (hS : va_S (aA G) s.heap H locs)
    (kk : ∀ (r : Option Value) (σ' : aS) (H1 : Heap) (locs1 : List Loc), P r σ' → AHP G σ' H1 → va_S (aA G) s.heap H1 locs1 → W p l e R s m args below meth c H1 locs1 (cs + mc) (ss + ms) Q (F0 m (pc + 3) ls (r.toList ++ rest))) : W p l e R s m args below meth c H locs cs ss Q (F0 m pc ls st0) := by
  intro T hT X
  obtain ⟨v, st₀, t, T', L, h0, X', hL, e1, e2, ⟨⟨r, σ', hv, hp, hh⟩, hz, hk⟩, st⟩ := hr T hT X
  cases hv
  rw [h0] at hz hk
  obtain ⟨t2, a1, b1⟩ := kk _ σ' T'.heap (locs ++ L) hp (by rw [e1]; exact hh)
    ⟨Nat.le_trans hS.1 (by rw [e1]; exact hz), fun q h1 h2 => by rw [e1, hk q (Nat.lt_of_lt_of_le h1 hS.1) h2]; exact hS.2.1 q h1 h2, fun q hq => by
      rcases List.mem_append.mp hq with h | h
      · exact hS.2.2 q h
      · exact hL q h⟩ T' rfl X'
  exact ⟨t2, st t2 a1, b1⟩
theorem aa_blind {G : aG} {av : List Value} {σ : aS} : FrameBlind (fun v U => v = av.toArray ∧ AHP G σ U.heap ∧ AGK G U ∧ G.2.1 ≤ U.heap.size) := by
  intro a U g mk q
  obtain ⟨q1, q2, q3, q4⟩ := q
  exact ⟨q1, q2, AGK.same (u := U) (U := U.calling g mk a) rfl q3, q4⟩
theorem aa_good {y : MethodName} {cc : ByteArray} {nL : Nat} {ret : Option FieldType} (h : Cond.code y cc nL ret ∈ lw_u) : GoodIn lw_u (wsM y cc nL ret) := by
  intro w hw
  rcases List.mem_cons.mp hw with rfl | hw
  · exact ⟨h, good_of_word rfl⟩
  · obtain ⟨h1, h2⟩ := List.mem_filter.mp hw
    exact ⟨List.mem_filter.mpr ⟨h1, by simp [uw, h2]⟩, good_of_word h2⟩
theorem aa_sig {y : MethodName} {n : Nat} (h : (parseMethodDescriptor y.desc).map (fun d => d.parameters.length) = some n) : ∀ sig, parseMethodDescriptor y.desc = some sig → n = sig.parameters.length := by
  intro sig hs
  rw [hs] at h
  exact (Option.some.inj h).symm
variable {y : MethodName} {yc : ByteArray} {yL n dd mc ms idx : Nat} {ret : Option FieldType} {av : List Value} {P : Option Value → aS → Prop}
theorem A_callS (hX : AOk l G X cc own nm nL R) (hy : MkY y yc yL ret n) (hw : LkS own idx y) (d : decode cc pc = .ok (.invokestatic idx, 3)) (hM : ACt l G y yc yL ret dd mc ms av σ P) (hav : av.length = n) (hlen : lv.length = nL) (hst : (st.map fun v => v.category).sum ≤ 8) (hfr : dd + 1 ≤ R.frames) (hlo : 8 + (yL + 11) + 36 * dd ≤ R.locals) (hc : cs + mc ≤ R.cells) (hs : ss + ms ≤ R.slots)
    (k : ∀ (r : Option Value) (σ' : aS), P r σ' → AA G X (cs + mc) (ss + ms) (pc + 3) lv (r.toList ++ st) σ') : AA G X cs ss pc lv (av.reverse ++ st) σ := by
  obtain ⟨y1, y2, y3, y4, y5⟩ := hy
  obtain ⟨w1, w2⟩ := hw
  obtain ⟨p, l', e, R', s, m, args, below, meth, c, Q⟩ := X
  obtain ⟨hx, hb, hml, hown, hts, hK, hb0, hnm, hll, hR⟩ := hX
  intro H locs ls hH hS hL
  subst hR; subst hll
  have hp : PreS s H (fun v U => v = av.toArray ∧ AHP G σ U.heap ∧ AGK G U ∧ G.2.1 ≤ U.heap.size) av := ⟨aa_blind, fun U hU hW => ⟨rfl, by rw [hU]; exact hH, AGK.warm hW hK, by rw [hU]; exact Nat.le_trans hb0 hS.1⟩⟩
  have hsz : (F0 m pc ls (av.reverse ++ st)).locals.size = nL := by rw [← hlen]; exact hL.1
  rcases w1 with w1 | ⟨host, w1⟩
  · exact aa_back (va_runS (Ts := lw_u) ⟨hx, hb, hml, hown, hts⟩ hM ⟨⟨rfl, rfl, hfr, hlo, pay_in hts (aa_good y1), List.mem_cons_self, hts _ y1, hts _ y2, y3, aa_sig y4, hts _ w1⟩, hts _ w2⟩ hp rfl hav hsz rfl (lv_room hst) d ⟨hc, hs⟩) hS fun r σ' H1 locs1 h1 h2 h3 => k r σ' h1 H1 locs1 ls h2 h3 hL
  · exact aa_back (va_runSN (Ts := lw_u) ⟨hx, hb, hml, hown, hts⟩ hM ⟨⟨⟨rfl, rfl, hfr, hlo, pay_in hts (aa_good y1), List.mem_cons_self⟩, hts _ y1, hts _ y2, y3, aa_sig y4, hts _ w1⟩, hts _ w2, trivial⟩ hp rfl hav hsz rfl (lv_room hst) d ⟨hc, hs⟩) hS fun r σ' H1 locs1 h1 h2 h3 => k r σ' h1 H1 locs1 ls h2 h3 hL
theorem A_callI {b : Nat} (hX : AOk l G X cc own nm nL R) (hy : MkY y yc yL none n) (hw : LkI own idx y) (d : decode cc pc = .ok (.invokespecial idx, 3)) (hM : ACt l G y yc yL none dd mc ms (.ref b :: av) σ P) (hav : av.length = n) (hlen : lv.length = nL) (hst : (st.map fun v => v.category).sum ≤ 8) (hfr : dd + 1 ≤ R.frames) (hlo : 8 + (yL + 11) + 36 * dd ≤ R.locals) (hc : cs + mc ≤ R.cells) (hs : ss + ms ≤ R.slots)
    (k : ∀ (r : Option Value) (σ' : aS), P r σ' → AA G X (cs + mc) (ss + ms) (pc + 3) lv (r.toList ++ st) σ') : AA G X cs ss pc lv (av.reverse ++ .ref b :: st) σ := by
  obtain ⟨y1, y2, y3, y4, y5⟩ := hy
  obtain ⟨w1, w2, w3⟩ := hw
  obtain ⟨p, l', e, R', s, m, args, below, meth, c, Q⟩ := X
  obtain ⟨hx, hb, hml, hown, hts, hK, hb0, hnm, hll, hR⟩ := hX
  intro H locs ls hH hS hL
  subst hR; subst hll
  have hp : PreS s H (fun v U => v = (Value.ref b :: av).toArray ∧ AHP G σ U.heap ∧ AGK G U ∧ G.2.1 ≤ U.heap.size) (.ref b :: av) := ⟨aa_blind, fun U hU hW => ⟨rfl, by rw [hU]; exact hH, AGK.warm hW hK, by rw [hU]; exact Nat.le_trans hb0 hS.1⟩⟩
  have hsz : (F0 m pc ls (av.reverse ++ .ref b :: st)).locals.size = nL := by rw [← hlen]; exact hL.1
  rcases w1 with w1 | ⟨host, w1⟩
  · exact aa_back (va_runI (Ts := lw_u) ⟨hx, hb, hml, hown, hts⟩ hM ⟨⟨rfl, rfl, hfr, hlo, pay_in hts (aa_good y1), List.mem_cons_self, hts _ y1, hts _ y2, y3, aa_sig y4, hts _ w1⟩, w3, hts _ w2⟩ hp rfl hav hsz rfl (lv_room hst) d ⟨hc, hs⟩) hS fun r σ' H1 locs1 h1 h2 h3 => k r σ' h1 H1 locs1 ls h2 h3 hL
  · exact aa_back (va_runIN (Ts := lw_u) ⟨hx, hb, hml, hown, hts⟩ hM ⟨⟨⟨rfl, rfl, hfr, hlo, pay_in hts (aa_good y1), List.mem_cons_self⟩, hts _ y1, hts _ y2, y3, aa_sig y4, hts _ w1⟩, w3, hts _ w2⟩ hp rfl hav hsz rfl (lv_room hst) d ⟨hc, hs⟩) hS fun r σ' H1 locs1 h1 h2 h3 => k r σ' h1 H1 locs1 ls h2 h3 hL
theorem A_callV {b ci : Nat} {fs : List Value} (hX : AOk l G X cc own nm nL R) (hy : MkY y yc yL ret n) (hw : LkV own idx y ci) (d : decode cc pc = .ok (.invokevirtual idx, 3)) (ho : σ.2 b = some (aO ci fs)) (hM : ACt l G y yc yL ret dd mc ms (.ref b :: av) σ P) (hav : av.length = n) (hlen : lv.length = nL) (hst : (st.map fun v => v.category).sum ≤ 8) (hfr : dd + 1 ≤ R.frames) (hlo : 8 + (yL + 11) + 36 * dd ≤ R.locals) (hc : cs + mc ≤ R.cells) (hs : ss + ms ≤ R.slots)
    (k : ∀ (r : Option Value) (σ' : aS), P r σ' → AA G X (cs + mc) (ss + ms) (pc + 3) lv (r.toList ++ st) σ') : AA G X cs ss pc lv (av.reverse ++ .ref b :: st) σ := by
  obtain ⟨y1, y2, y3, y4, y5⟩ := hy
  obtain ⟨w1, w2, w3, T, N, w4⟩ := hw
  obtain ⟨p, l', e, R', s, m, args, below, meth, c, Q⟩ := X
  obtain ⟨hx, hb, hml, hown, hts, hK, hb0, hnm, hll, hR⟩ := hX
  intro H locs ls hH hS hL
  have hP1 : ∀ {a : Nat} {e : va_E}, σ.2 a = some e → va_P G.1 vwCl [(a, e)] H := fun h k q hq => by
    match k, hq with
    | 0, hq => cases hq; exact (hH.2 _ _ h).2
    | k + 1, hq => simp at hq
  subst hR; subst hll
  have hp : PreV s H y.cls b (fun v U => v = (Value.ref b :: av).toArray ∧ AHP G σ U.heap ∧ AGK G U ∧ G.2.1 ≤ U.heap.size) av := ⟨aa_blind, va_recv hK.1 (hP1 ho) (q0 := 0) w4 rfl, fun U hU hW => ⟨rfl, by rw [hU]; exact hH, AGK.warm hW hK, by rw [hU]; exact Nat.le_trans hb0 hS.1⟩⟩
  have hsz : (F0 m pc ls (av.reverse ++ .ref b :: st)).locals.size = nL := by rw [← hlen]; exact hL.1
  exact aa_back (va_runV (Ts := lw_u) ⟨hx, hb, hml, hown, hts⟩ hM ⟨⟨rfl, rfl, hfr, hlo, pay_in hts (aa_good y1), List.mem_cons_self, hts _ y1, hts _ y2, y3, aa_sig y4, hts _ w1⟩, hts _ w2, hts _ w3⟩ hp rfl hav hsz rfl (lv_room hst) d ⟨hc, hs⟩) hS fun r σ' H1 locs1 h1 h2 h3 => k r σ' h1 H1 locs1 ls h2 h3 hL
theorem A_callU {b ci : Nat} {fs : List Value} {x : MethodName} (hX : AOk l G X cc own nm nL R) (hy : MkY y yc yL ret n) (hw : LkU own idx x y ci) (d : decode cc pc = .ok (.invokevirtual idx, 3)) (ho : σ.2 b = some (aO ci fs)) (hM : ACt l G y yc yL ret dd mc ms (.ref b :: av) σ P) (hav : av.length = n) (hlen : lv.length = nL) (hst : (st.map fun v => v.category).sum ≤ 8) (hfr : dd + 1 ≤ R.frames) (hlo : 8 + (yL + 11) + 36 * dd ≤ R.locals) (hc : cs + mc ≤ R.cells) (hs : ss + ms ≤ R.slots)
    (k : ∀ (r : Option Value) (σ' : aS), P r σ' → AA G X (cs + mc) (ss + ms) (pc + 3) lv (r.toList ++ st) σ') : AA G X cs ss pc lv (av.reverse ++ .ref b :: st) σ := by
  obtain ⟨y1, y2, y3, y4, y5⟩ := hy
  obtain ⟨C, T, N, owner, b0, m0, r0, w1, w2, w3, w4, w5, w6, w7, w8, w9⟩ := hw
  obtain ⟨p, l', e, R', s, m, args, below, meth, c, Q⟩ := X
  obtain ⟨hx, hb, hml, hown, hts, hK, hb0, hnm, hll, hR⟩ := hX
  intro H locs ls hH hS hL
  have hP1 : ∀ {a : Nat} {e : va_E}, σ.2 a = some e → va_P G.1 vwCl [(a, e)] H := fun h k q hq => by
    match k, hq with
    | 0, hq => cases hq; exact (hH.2 _ _ h).2
    | k + 1, hq => simp at hq
  subst hR; subst hll
  have hp : PreV s H C b (fun v U => v = (Value.ref b :: av).toArray ∧ AHP G σ U.heap ∧ AGK G U ∧ G.2.1 ≤ U.heap.size) av := ⟨aa_blind, va_recv hK.1 (hP1 ho) (q0 := 0) w1 rfl, fun U hU hW => ⟨rfl, by rw [hU]; exact hH, AGK.warm hW hK, by rw [hU]; exact Nat.le_trans hb0 hS.1⟩⟩
  have hsz : (F0 m pc ls (av.reverse ++ .ref b :: st)).locals.size = nL := by rw [← hlen]; exact hL.1
  exact aa_back (va_runU (Ts := lw_u) (C := C) (owner := owner) (x := x) ⟨hx, hb, hml, hown, hts⟩ hM ⟨⟨rfl, rfl, hfr, hlo, pay_in hts (aa_good y1), List.mem_cons_self⟩, hts _ y1, hts _ y2, w8, by rw [w9]; exact aa_sig y4, hts _ w2, hts _ w3, va_Decl.of (hts _ w4) (hts _ w5), hts _ w6, hts _ w7⟩ hp rfl hav hsz rfl (lv_room hst) d ⟨hc, hs⟩) hS fun r σ' H1 locs1 h1 h2 h3 => k r σ' h1 H1 locs1 ls h2 h3 hL
theorem A_mmin {x y' : Int32} (hX : AOk l G X cc own nm nL R) (hw : Cond.methodLink own idx Lib.Math.min.name ∈ lw_u) (d : decode cc pc = .ok (.invokestatic idx, 3)) (hlen : lv.length = nL) (hfr : 1 ≤ R.frames) (hlo : (st.map fun v => v.category).sum + 13 ≤ R.locals) (hc : cs ≤ R.cells) (hs : ss ≤ R.slots) (k : AA G X cs ss (pc + 3) lv (.int (if y' < x then y' else x) :: st) σ) : AA G X cs ss pc lv (.int y' :: .int x :: st) σ := by
  obtain ⟨p, l', e, R', s, m, args, below, meth, c, Q⟩ := X
  obtain ⟨hx, hb, hml, hown, hts, hK, hb0, hnm, hll, hR⟩ := hX
  intro H locs ls hH hS hL
  subst hR
  exact va_mmin hx hb (by rw [hml, ← hlen]; exact hL.1.symm) hown (hts _ hw) (hts _ mm_stat) (hts _ mm_init) (hts _ mm_code) hfr hlo hc hs d (k H locs ls hH hS hL)
theorem A_S0 (hX : AOk l G X cc own nm nL R) (hy : MkY y yc yL ret 0) (hw : LkS own idx y) (d : decode cc pc = .ok (.invokestatic idx, 3)) (hM : ACt l G y yc yL ret dd mc ms [] σ P) (hlen : lv.length = nL) (hst : (st.map fun v => v.category).sum ≤ 8) (hfr : dd + 1 ≤ R.frames) (hlo : 8 + (yL + 11) + 36 * dd ≤ R.locals) (hc : cs + mc ≤ R.cells) (hs : ss + ms ≤ R.slots) (k : ∀ (r : Option Value) (σ' : aS), P r σ' → AA G X (cs + mc) (ss + ms) (pc + 3) lv (r.toList ++ st) σ') : AA G X cs ss pc lv (st) σ :=
  A_callS (av := []) hX hy hw d hM rfl hlen hst hfr hlo hc hs k
theorem A_S0p (hX : AOk l G X cc own nm nL R) (hy : MkY y yc yL ret 0) (hw : LkS own idx y) (d : decode cc pc = .ok (.invokestatic idx, 3)) (hM : ACt l G y yc yL ret dd 0 0 [] σ (P)) (hlen : lv.length = nL) (hst : (st.map fun v => v.category).sum ≤ 8) (hfr : dd + 1 ≤ R.frames) (hlo : 8 + (yL + 11) + 36 * dd ≤ R.locals) (hc : cs ≤ R.cells) (hs : ss ≤ R.slots) (k : ∀ (r : Option Value) (σ' : aS), P r σ' → AA G X cs ss (pc + 3) lv (r.toList ++ st) σ') : AA G X cs ss pc lv (st) σ :=
  A_callS (av := []) hX hy hw d hM rfl hlen hst hfr hlo hc hs (k)
theorem A_S0d {w : Value} {σ1 : aS} (hX : AOk l G X cc own nm nL R) (hy : MkY y yc yL ret 0) (hw : LkS own idx y) (d : decode cc pc = .ok (.invokestatic idx, 3)) (hM : ACt l G y yc yL ret dd 0 0 [] σ (dP (some w) σ1)) (hlen : lv.length = nL) (hst : (st.map fun v => v.category).sum ≤ 8) (hfr : dd + 1 ≤ R.frames) (hlo : 8 + (yL + 11) + 36 * dd ≤ R.locals) (hc : cs ≤ R.cells) (hs : ss ≤ R.slots) (k : AA G X cs ss (pc + 3) lv (w :: st) σ1) : AA G X cs ss pc lv (st) σ :=
  A_callS (av := []) hX hy hw d hM rfl hlen hst hfr hlo hc hs (fun _ _ h => by obtain ⟨rfl, rfl⟩ := h; exact k)
theorem A_S0e {σ1 : aS} (hX : AOk l G X cc own nm nL R) (hy : MkY y yc yL ret 0) (hw : LkS own idx y) (d : decode cc pc = .ok (.invokestatic idx, 3)) (hM : ACt l G y yc yL ret dd 0 0 [] σ (dP none σ1)) (hlen : lv.length = nL) (hst : (st.map fun v => v.category).sum ≤ 8) (hfr : dd + 1 ≤ R.frames) (hlo : 8 + (yL + 11) + 36 * dd ≤ R.locals) (hc : cs ≤ R.cells) (hs : ss ≤ R.slots) (k : AA G X cs ss (pc + 3) lv st σ1) : AA G X cs ss pc lv (st) σ :=
  A_callS (av := []) hX hy hw d hM rfl hlen hst hfr hlo hc hs (fun _ _ h => by obtain ⟨rfl, rfl⟩ := h; exact k)
theorem A_S0i {Q : Int32 → aS → Prop} (hX : AOk l G X cc own nm nL R) (hy : MkY y yc yL ret 0) (hw : LkS own idx y) (d : decode cc pc = .ok (.invokestatic idx, 3)) (hM : ACt l G y yc yL ret dd 0 0 [] σ (iP Q)) (hlen : lv.length = nL) (hst : (st.map fun v => v.category).sum ≤ 8) (hfr : dd + 1 ≤ R.frames) (hlo : 8 + (yL + 11) + 36 * dd ≤ R.locals) (hc : cs ≤ R.cells) (hs : ss ≤ R.slots) (k : ∀ (x : Int32) (σ' : aS), Q x σ' → AA G X cs ss (pc + 3) lv (.int x :: st) σ') : AA G X cs ss pc lv (st) σ :=
  A_callS (av := []) hX hy hw d hM rfl hlen hst hfr hlo hc hs (fun _ σ' h => by obtain ⟨x, rfl, h⟩ := h; exact k x σ' h)
theorem A_S0j {Q : Int64 → aS → Prop} (hX : AOk l G X cc own nm nL R) (hy : MkY y yc yL ret 0) (hw : LkS own idx y) (d : decode cc pc = .ok (.invokestatic idx, 3)) (hM : ACt l G y yc yL ret dd 0 0 [] σ (jP Q)) (hlen : lv.length = nL) (hst : (st.map fun v => v.category).sum ≤ 8) (hfr : dd + 1 ≤ R.frames) (hlo : 8 + (yL + 11) + 36 * dd ≤ R.locals) (hc : cs ≤ R.cells) (hs : ss ≤ R.slots) (k : ∀ (x : Int64) (σ' : aS), Q x σ' → AA G X cs ss (pc + 3) lv (.long x :: st) σ') : AA G X cs ss pc lv (st) σ :=
  A_callS (av := []) hX hy hw d hM rfl hlen hst hfr hlo hc hs (fun _ σ' h => by obtain ⟨x, rfl, h⟩ := h; exact k x σ' h)
theorem A_S0v {Q : aS → Prop} (hX : AOk l G X cc own nm nL R) (hy : MkY y yc yL ret 0) (hw : LkS own idx y) (d : decode cc pc = .ok (.invokestatic idx, 3)) (hM : ACt l G y yc yL ret dd 0 0 [] σ (vP Q)) (hlen : lv.length = nL) (hst : (st.map fun v => v.category).sum ≤ 8) (hfr : dd + 1 ≤ R.frames) (hlo : 8 + (yL + 11) + 36 * dd ≤ R.locals) (hc : cs ≤ R.cells) (hs : ss ≤ R.slots) (k : ∀ σ' : aS, Q σ' → AA G X cs ss (pc + 3) lv st σ') : AA G X cs ss pc lv (st) σ :=
  A_callS (av := []) hX hy hw d hM rfl hlen hst hfr hlo hc hs (fun _ σ' h => by obtain ⟨rfl, h⟩ := h; exact k σ' h)
theorem A_S1 {a1 : Value} (hX : AOk l G X cc own nm nL R) (hy : MkY y yc yL ret 1) (hw : LkS own idx y) (d : decode cc pc = .ok (.invokestatic idx, 3)) (hM : ACt l G y yc yL ret dd mc ms [a1] σ P) (hlen : lv.length = nL) (hst : (st.map fun v => v.category).sum ≤ 8) (hfr : dd + 1 ≤ R.frames) (hlo : 8 + (yL + 11) + 36 * dd ≤ R.locals) (hc : cs + mc ≤ R.cells) (hs : ss + ms ≤ R.slots) (k : ∀ (r : Option Value) (σ' : aS), P r σ' → AA G X (cs + mc) (ss + ms) (pc + 3) lv (r.toList ++ st) σ') : AA G X cs ss pc lv (a1 :: st) σ :=
  A_callS (av := [a1]) hX hy hw d hM rfl hlen hst hfr hlo hc hs k
theorem A_S1p {a1 : Value} (hX : AOk l G X cc own nm nL R) (hy : MkY y yc yL ret 1) (hw : LkS own idx y) (d : decode cc pc = .ok (.invokestatic idx, 3)) (hM : ACt l G y yc yL ret dd 0 0 [a1] σ (P)) (hlen : lv.length = nL) (hst : (st.map fun v => v.category).sum ≤ 8) (hfr : dd + 1 ≤ R.frames) (hlo : 8 + (yL + 11) + 36 * dd ≤ R.locals) (hc : cs ≤ R.cells) (hs : ss ≤ R.slots) (k : ∀ (r : Option Value) (σ' : aS), P r σ' → AA G X cs ss (pc + 3) lv (r.toList ++ st) σ') : AA G X cs ss pc lv (a1 :: st) σ :=
  A_callS (av := [a1]) hX hy hw d hM rfl hlen hst hfr hlo hc hs (k)
theorem A_S1d {w : Value} {σ1 : aS} {a1 : Value} (hX : AOk l G X cc own nm nL R) (hy : MkY y yc yL ret 1) (hw : LkS own idx y) (d : decode cc pc = .ok (.invokestatic idx, 3)) (hM : ACt l G y yc yL ret dd 0 0 [a1] σ (dP (some w) σ1)) (hlen : lv.length = nL) (hst : (st.map fun v => v.category).sum ≤ 8) (hfr : dd + 1 ≤ R.frames) (hlo : 8 + (yL + 11) + 36 * dd ≤ R.locals) (hc : cs ≤ R.cells) (hs : ss ≤ R.slots) (k : AA G X cs ss (pc + 3) lv (w :: st) σ1) : AA G X cs ss pc lv (a1 :: st) σ :=
  A_callS (av := [a1]) hX hy hw d hM rfl hlen hst hfr hlo hc hs (fun _ _ h => by obtain ⟨rfl, rfl⟩ := h; exact k)
theorem A_S1e {σ1 : aS} {a1 : Value} (hX : AOk l G X cc own nm nL R) (hy : MkY y yc yL ret 1) (hw : LkS own idx y) (d : decode cc pc = .ok (.invokestatic idx, 3)) (hM : ACt l G y yc yL ret dd 0 0 [a1] σ (dP none σ1)) (hlen : lv.length = nL) (hst : (st.map fun v => v.category).sum ≤ 8) (hfr : dd + 1 ≤ R.frames) (hlo : 8 + (yL + 11) + 36 * dd ≤ R.locals) (hc : cs ≤ R.cells) (hs : ss ≤ R.slots) (k : AA G X cs ss (pc + 3) lv st σ1) : AA G X cs ss pc lv (a1 :: st) σ :=
  A_callS (av := [a1]) hX hy hw d hM rfl hlen hst hfr hlo hc hs (fun _ _ h => by obtain ⟨rfl, rfl⟩ := h; exact k)
theorem A_S1i {Q : Int32 → aS → Prop} {a1 : Value} (hX : AOk l G X cc own nm nL R) (hy : MkY y yc yL ret 1) (hw : LkS own idx y) (d : decode cc pc = .ok (.invokestatic idx, 3)) (hM : ACt l G y yc yL ret dd 0 0 [a1] σ (iP Q)) (hlen : lv.length = nL) (hst : (st.map fun v => v.category).sum ≤ 8) (hfr : dd + 1 ≤ R.frames) (hlo : 8 + (yL + 11) + 36 * dd ≤ R.locals) (hc : cs ≤ R.cells) (hs : ss ≤ R.slots) (k : ∀ (x : Int32) (σ' : aS), Q x σ' → AA G X cs ss (pc + 3) lv (.int x :: st) σ') : AA G X cs ss pc lv (a1 :: st) σ :=
  A_callS (av := [a1]) hX hy hw d hM rfl hlen hst hfr hlo hc hs (fun _ σ' h => by obtain ⟨x, rfl, h⟩ := h; exact k x σ' h)
theorem A_S1j {Q : Int64 → aS → Prop} {a1 : Value} (hX : AOk l G X cc own nm nL R) (hy : MkY y yc yL ret 1) (hw : LkS own idx y) (d : decode cc pc = .ok (.invokestatic idx, 3)) (hM : ACt l G y yc yL ret dd 0 0 [a1] σ (jP Q)) (hlen : lv.length = nL) (hst : (st.map fun v => v.category).sum ≤ 8) (hfr : dd + 1 ≤ R.frames) (hlo : 8 + (yL + 11) + 36 * dd ≤ R.locals) (hc : cs ≤ R.cells) (hs : ss ≤ R.slots) (k : ∀ (x : Int64) (σ' : aS), Q x σ' → AA G X cs ss (pc + 3) lv (.long x :: st) σ') : AA G X cs ss pc lv (a1 :: st) σ :=
  A_callS (av := [a1]) hX hy hw d hM rfl hlen hst hfr hlo hc hs (fun _ σ' h => by obtain ⟨x, rfl, h⟩ := h; exact k x σ' h)
theorem A_S1v {Q : aS → Prop} {a1 : Value} (hX : AOk l G X cc own nm nL R) (hy : MkY y yc yL ret 1) (hw : LkS own idx y) (d : decode cc pc = .ok (.invokestatic idx, 3)) (hM : ACt l G y yc yL ret dd 0 0 [a1] σ (vP Q)) (hlen : lv.length = nL) (hst : (st.map fun v => v.category).sum ≤ 8) (hfr : dd + 1 ≤ R.frames) (hlo : 8 + (yL + 11) + 36 * dd ≤ R.locals) (hc : cs ≤ R.cells) (hs : ss ≤ R.slots) (k : ∀ σ' : aS, Q σ' → AA G X cs ss (pc + 3) lv st σ') : AA G X cs ss pc lv (a1 :: st) σ :=
  A_callS (av := [a1]) hX hy hw d hM rfl hlen hst hfr hlo hc hs (fun _ σ' h => by obtain ⟨rfl, h⟩ := h; exact k σ' h)
theorem A_S2 {a1 a2 : Value} (hX : AOk l G X cc own nm nL R) (hy : MkY y yc yL ret 2) (hw : LkS own idx y) (d : decode cc pc = .ok (.invokestatic idx, 3)) (hM : ACt l G y yc yL ret dd mc ms [a1, a2] σ P) (hlen : lv.length = nL) (hst : (st.map fun v => v.category).sum ≤ 8) (hfr : dd + 1 ≤ R.frames) (hlo : 8 + (yL + 11) + 36 * dd ≤ R.locals) (hc : cs + mc ≤ R.cells) (hs : ss + ms ≤ R.slots) (k : ∀ (r : Option Value) (σ' : aS), P r σ' → AA G X (cs + mc) (ss + ms) (pc + 3) lv (r.toList ++ st) σ') : AA G X cs ss pc lv (a2 :: a1 :: st) σ :=
  A_callS (av := [a1, a2]) hX hy hw d hM rfl hlen hst hfr hlo hc hs k
theorem A_S2p {a1 a2 : Value} (hX : AOk l G X cc own nm nL R) (hy : MkY y yc yL ret 2) (hw : LkS own idx y) (d : decode cc pc = .ok (.invokestatic idx, 3)) (hM : ACt l G y yc yL ret dd 0 0 [a1, a2] σ (P)) (hlen : lv.length = nL) (hst : (st.map fun v => v.category).sum ≤ 8) (hfr : dd + 1 ≤ R.frames) (hlo : 8 + (yL + 11) + 36 * dd ≤ R.locals) (hc : cs ≤ R.cells) (hs : ss ≤ R.slots) (k : ∀ (r : Option Value) (σ' : aS), P r σ' → AA G X cs ss (pc + 3) lv (r.toList ++ st) σ') : AA G X cs ss pc lv (a2 :: a1 :: st) σ :=
  A_callS (av := [a1, a2]) hX hy hw d hM rfl hlen hst hfr hlo hc hs (k)
theorem A_S2d {w : Value} {σ1 : aS} {a1 a2 : Value} (hX : AOk l G X cc own nm nL R) (hy : MkY y yc yL ret 2) (hw : LkS own idx y) (d : decode cc pc = .ok (.invokestatic idx, 3)) (hM : ACt l G y yc yL ret dd 0 0 [a1, a2] σ (dP (some w) σ1)) (hlen : lv.length = nL) (hst : (st.map fun v => v.category).sum ≤ 8) (hfr : dd + 1 ≤ R.frames) (hlo : 8 + (yL + 11) + 36 * dd ≤ R.locals) (hc : cs ≤ R.cells) (hs : ss ≤ R.slots) (k : AA G X cs ss (pc + 3) lv (w :: st) σ1) : AA G X cs ss pc lv (a2 :: a1 :: st) σ :=
  A_callS (av := [a1, a2]) hX hy hw d hM rfl hlen hst hfr hlo hc hs (fun _ _ h => by obtain ⟨rfl, rfl⟩ := h; exact k)
theorem A_S2e {σ1 : aS} {a1 a2 : Value} (hX : AOk l G X cc own nm nL R) (hy : MkY y yc yL ret 2) (hw : LkS own idx y) (d : decode cc pc = .ok (.invokestatic idx, 3)) (hM : ACt l G y yc yL ret dd 0 0 [a1, a2] σ (dP none σ1)) (hlen : lv.length = nL) (hst : (st.map fun v => v.category).sum ≤ 8) (hfr : dd + 1 ≤ R.frames) (hlo : 8 + (yL + 11) + 36 * dd ≤ R.locals) (hc : cs ≤ R.cells) (hs : ss ≤ R.slots) (k : AA G X cs ss (pc + 3) lv st σ1) : AA G X cs ss pc lv (a2 :: a1 :: st) σ :=
  A_callS (av := [a1, a2]) hX hy hw d hM rfl hlen hst hfr hlo hc hs (fun _ _ h => by obtain ⟨rfl, rfl⟩ := h; exact k)
theorem A_S2i {Q : Int32 → aS → Prop} {a1 a2 : Value} (hX : AOk l G X cc own nm nL R) (hy : MkY y yc yL ret 2) (hw : LkS own idx y) (d : decode cc pc = .ok (.invokestatic idx, 3)) (hM : ACt l G y yc yL ret dd 0 0 [a1, a2] σ (iP Q)) (hlen : lv.length = nL) (hst : (st.map fun v => v.category).sum ≤ 8) (hfr : dd + 1 ≤ R.frames) (hlo : 8 + (yL + 11) + 36 * dd ≤ R.locals) (hc : cs ≤ R.cells) (hs : ss ≤ R.slots) (k : ∀ (x : Int32) (σ' : aS), Q x σ' → AA G X cs ss (pc + 3) lv (.int x :: st) σ') : AA G X cs ss pc lv (a2 :: a1 :: st) σ :=
  A_callS (av := [a1, a2]) hX hy hw d hM rfl hlen hst hfr hlo hc hs (fun _ σ' h => by obtain ⟨x, rfl, h⟩ := h; exact k x σ' h)
theorem A_S2j {Q : Int64 → aS → Prop} {a1 a2 : Value} (hX : AOk l G X cc own nm nL R) (hy : MkY y yc yL ret 2) (hw : LkS own idx y) (d : decode cc pc = .ok (.invokestatic idx, 3)) (hM : ACt l G y yc yL ret dd 0 0 [a1, a2] σ (jP Q)) (hlen : lv.length = nL) (hst : (st.map fun v => v.category).sum ≤ 8) (hfr : dd + 1 ≤ R.frames) (hlo : 8 + (yL + 11) + 36 * dd ≤ R.locals) (hc : cs ≤ R.cells) (hs : ss ≤ R.slots) (k : ∀ (x : Int64) (σ' : aS), Q x σ' → AA G X cs ss (pc + 3) lv (.long x :: st) σ') : AA G X cs ss pc lv (a2 :: a1 :: st) σ :=
  A_callS (av := [a1, a2]) hX hy hw d hM rfl hlen hst hfr hlo hc hs (fun _ σ' h => by obtain ⟨x, rfl, h⟩ := h; exact k x σ' h)
theorem A_S2v {Q : aS → Prop} {a1 a2 : Value} (hX : AOk l G X cc own nm nL R) (hy : MkY y yc yL ret 2) (hw : LkS own idx y) (d : decode cc pc = .ok (.invokestatic idx, 3)) (hM : ACt l G y yc yL ret dd 0 0 [a1, a2] σ (vP Q)) (hlen : lv.length = nL) (hst : (st.map fun v => v.category).sum ≤ 8) (hfr : dd + 1 ≤ R.frames) (hlo : 8 + (yL + 11) + 36 * dd ≤ R.locals) (hc : cs ≤ R.cells) (hs : ss ≤ R.slots) (k : ∀ σ' : aS, Q σ' → AA G X cs ss (pc + 3) lv st σ') : AA G X cs ss pc lv (a2 :: a1 :: st) σ :=
  A_callS (av := [a1, a2]) hX hy hw d hM rfl hlen hst hfr hlo hc hs (fun _ σ' h => by obtain ⟨rfl, h⟩ := h; exact k σ' h)
theorem A_S3 {a1 a2 a3 : Value} (hX : AOk l G X cc own nm nL R) (hy : MkY y yc yL ret 3) (hw : LkS own idx y) (d : decode cc pc = .ok (.invokestatic idx, 3)) (hM : ACt l G y yc yL ret dd mc ms [a1, a2, a3] σ P) (hlen : lv.length = nL) (hst : (st.map fun v => v.category).sum ≤ 8) (hfr : dd + 1 ≤ R.frames) (hlo : 8 + (yL + 11) + 36 * dd ≤ R.locals) (hc : cs + mc ≤ R.cells) (hs : ss + ms ≤ R.slots) (k : ∀ (r : Option Value) (σ' : aS), P r σ' → AA G X (cs + mc) (ss + ms) (pc + 3) lv (r.toList ++ st) σ') : AA G X cs ss pc lv (a3 :: a2 :: a1 :: st) σ :=
  A_callS (av := [a1, a2, a3]) hX hy hw d hM rfl hlen hst hfr hlo hc hs k
theorem A_S3p {a1 a2 a3 : Value} (hX : AOk l G X cc own nm nL R) (hy : MkY y yc yL ret 3) (hw : LkS own idx y) (d : decode cc pc = .ok (.invokestatic idx, 3)) (hM : ACt l G y yc yL ret dd 0 0 [a1, a2, a3] σ (P)) (hlen : lv.length = nL) (hst : (st.map fun v => v.category).sum ≤ 8) (hfr : dd + 1 ≤ R.frames) (hlo : 8 + (yL + 11) + 36 * dd ≤ R.locals) (hc : cs ≤ R.cells) (hs : ss ≤ R.slots) (k : ∀ (r : Option Value) (σ' : aS), P r σ' → AA G X cs ss (pc + 3) lv (r.toList ++ st) σ') : AA G X cs ss pc lv (a3 :: a2 :: a1 :: st) σ :=
  A_callS (av := [a1, a2, a3]) hX hy hw d hM rfl hlen hst hfr hlo hc hs (k)
theorem A_S3d {w : Value} {σ1 : aS} {a1 a2 a3 : Value} (hX : AOk l G X cc own nm nL R) (hy : MkY y yc yL ret 3) (hw : LkS own idx y) (d : decode cc pc = .ok (.invokestatic idx, 3)) (hM : ACt l G y yc yL ret dd 0 0 [a1, a2, a3] σ (dP (some w) σ1)) (hlen : lv.length = nL) (hst : (st.map fun v => v.category).sum ≤ 8) (hfr : dd + 1 ≤ R.frames) (hlo : 8 + (yL + 11) + 36 * dd ≤ R.locals) (hc : cs ≤ R.cells) (hs : ss ≤ R.slots) (k : AA G X cs ss (pc + 3) lv (w :: st) σ1) : AA G X cs ss pc lv (a3 :: a2 :: a1 :: st) σ :=
  A_callS (av := [a1, a2, a3]) hX hy hw d hM rfl hlen hst hfr hlo hc hs (fun _ _ h => by obtain ⟨rfl, rfl⟩ := h; exact k)
theorem A_S3e {σ1 : aS} {a1 a2 a3 : Value} (hX : AOk l G X cc own nm nL R) (hy : MkY y yc yL ret 3) (hw : LkS own idx y) (d : decode cc pc = .ok (.invokestatic idx, 3)) (hM : ACt l G y yc yL ret dd 0 0 [a1, a2, a3] σ (dP none σ1)) (hlen : lv.length = nL) (hst : (st.map fun v => v.category).sum ≤ 8) (hfr : dd + 1 ≤ R.frames) (hlo : 8 + (yL + 11) + 36 * dd ≤ R.locals) (hc : cs ≤ R.cells) (hs : ss ≤ R.slots) (k : AA G X cs ss (pc + 3) lv st σ1) : AA G X cs ss pc lv (a3 :: a2 :: a1 :: st) σ :=
  A_callS (av := [a1, a2, a3]) hX hy hw d hM rfl hlen hst hfr hlo hc hs (fun _ _ h => by obtain ⟨rfl, rfl⟩ := h; exact k)
theorem A_S3i {Q : Int32 → aS → Prop} {a1 a2 a3 : Value} (hX : AOk l G X cc own nm nL R) (hy : MkY y yc yL ret 3) (hw : LkS own idx y) (d : decode cc pc = .ok (.invokestatic idx, 3)) (hM : ACt l G y yc yL ret dd 0 0 [a1, a2, a3] σ (iP Q)) (hlen : lv.length = nL) (hst : (st.map fun v => v.category).sum ≤ 8) (hfr : dd + 1 ≤ R.frames) (hlo : 8 + (yL + 11) + 36 * dd ≤ R.locals) (hc : cs ≤ R.cells) (hs : ss ≤ R.slots) (k : ∀ (x : Int32) (σ' : aS), Q x σ' → AA G X cs ss (pc + 3) lv (.int x :: st) σ') : AA G X cs ss pc lv (a3 :: a2 :: a1 :: st) σ :=
  A_callS (av := [a1, a2, a3]) hX hy hw d hM rfl hlen hst hfr hlo hc hs (fun _ σ' h => by obtain ⟨x, rfl, h⟩ := h; exact k x σ' h)
theorem A_S3j {Q : Int64 → aS → Prop} {a1 a2 a3 : Value} (hX : AOk l G X cc own nm nL R) (hy : MkY y yc yL ret 3) (hw : LkS own idx y) (d : decode cc pc = .ok (.invokestatic idx, 3)) (hM : ACt l G y yc yL ret dd 0 0 [a1, a2, a3] σ (jP Q)) (hlen : lv.length = nL) (hst : (st.map fun v => v.category).sum ≤ 8) (hfr : dd + 1 ≤ R.frames) (hlo : 8 + (yL + 11) + 36 * dd ≤ R.locals) (hc : cs ≤ R.cells) (hs : ss ≤ R.slots) (k : ∀ (x : Int64) (σ' : aS), Q x σ' → AA G X cs ss (pc + 3) lv (.long x :: st) σ') : AA G X cs ss pc lv (a3 :: a2 :: a1 :: st) σ :=
  A_callS (av := [a1, a2, a3]) hX hy hw d hM rfl hlen hst hfr hlo hc hs (fun _ σ' h => by obtain ⟨x, rfl, h⟩ := h; exact k x σ' h)
theorem A_S3v {Q : aS → Prop} {a1 a2 a3 : Value} (hX : AOk l G X cc own nm nL R) (hy : MkY y yc yL ret 3) (hw : LkS own idx y) (d : decode cc pc = .ok (.invokestatic idx, 3)) (hM : ACt l G y yc yL ret dd 0 0 [a1, a2, a3] σ (vP Q)) (hlen : lv.length = nL) (hst : (st.map fun v => v.category).sum ≤ 8) (hfr : dd + 1 ≤ R.frames) (hlo : 8 + (yL + 11) + 36 * dd ≤ R.locals) (hc : cs ≤ R.cells) (hs : ss ≤ R.slots) (k : ∀ σ' : aS, Q σ' → AA G X cs ss (pc + 3) lv st σ') : AA G X cs ss pc lv (a3 :: a2 :: a1 :: st) σ :=
  A_callS (av := [a1, a2, a3]) hX hy hw d hM rfl hlen hst hfr hlo hc hs (fun _ σ' h => by obtain ⟨rfl, h⟩ := h; exact k σ' h)
theorem A_S4 {a1 a2 a3 a4 : Value} (hX : AOk l G X cc own nm nL R) (hy : MkY y yc yL ret 4) (hw : LkS own idx y) (d : decode cc pc = .ok (.invokestatic idx, 3)) (hM : ACt l G y yc yL ret dd mc ms [a1, a2, a3, a4] σ P) (hlen : lv.length = nL) (hst : (st.map fun v => v.category).sum ≤ 8) (hfr : dd + 1 ≤ R.frames) (hlo : 8 + (yL + 11) + 36 * dd ≤ R.locals) (hc : cs + mc ≤ R.cells) (hs : ss + ms ≤ R.slots) (k : ∀ (r : Option Value) (σ' : aS), P r σ' → AA G X (cs + mc) (ss + ms) (pc + 3) lv (r.toList ++ st) σ') : AA G X cs ss pc lv (a4 :: a3 :: a2 :: a1 :: st) σ :=
  A_callS (av := [a1, a2, a3, a4]) hX hy hw d hM rfl hlen hst hfr hlo hc hs k
theorem A_S4p {a1 a2 a3 a4 : Value} (hX : AOk l G X cc own nm nL R) (hy : MkY y yc yL ret 4) (hw : LkS own idx y) (d : decode cc pc = .ok (.invokestatic idx, 3)) (hM : ACt l G y yc yL ret dd 0 0 [a1, a2, a3, a4] σ (P)) (hlen : lv.length = nL) (hst : (st.map fun v => v.category).sum ≤ 8) (hfr : dd + 1 ≤ R.frames) (hlo : 8 + (yL + 11) + 36 * dd ≤ R.locals) (hc : cs ≤ R.cells) (hs : ss ≤ R.slots) (k : ∀ (r : Option Value) (σ' : aS), P r σ' → AA G X cs ss (pc + 3) lv (r.toList ++ st) σ') : AA G X cs ss pc lv (a4 :: a3 :: a2 :: a1 :: st) σ :=
  A_callS (av := [a1, a2, a3, a4]) hX hy hw d hM rfl hlen hst hfr hlo hc hs (k)
theorem A_S4d {w : Value} {σ1 : aS} {a1 a2 a3 a4 : Value} (hX : AOk l G X cc own nm nL R) (hy : MkY y yc yL ret 4) (hw : LkS own idx y) (d : decode cc pc = .ok (.invokestatic idx, 3)) (hM : ACt l G y yc yL ret dd 0 0 [a1, a2, a3, a4] σ (dP (some w) σ1)) (hlen : lv.length = nL) (hst : (st.map fun v => v.category).sum ≤ 8) (hfr : dd + 1 ≤ R.frames) (hlo : 8 + (yL + 11) + 36 * dd ≤ R.locals) (hc : cs ≤ R.cells) (hs : ss ≤ R.slots) (k : AA G X cs ss (pc + 3) lv (w :: st) σ1) : AA G X cs ss pc lv (a4 :: a3 :: a2 :: a1 :: st) σ :=
  A_callS (av := [a1, a2, a3, a4]) hX hy hw d hM rfl hlen hst hfr hlo hc hs (fun _ _ h => by obtain ⟨rfl, rfl⟩ := h; exact k)
theorem A_S4e {σ1 : aS} {a1 a2 a3 a4 : Value} (hX : AOk l G X cc own nm nL R) (hy : MkY y yc yL ret 4) (hw : LkS own idx y) (d : decode cc pc = .ok (.invokestatic idx, 3)) (hM : ACt l G y yc yL ret dd 0 0 [a1, a2, a3, a4] σ (dP none σ1)) (hlen : lv.length = nL) (hst : (st.map fun v => v.category).sum ≤ 8) (hfr : dd + 1 ≤ R.frames) (hlo : 8 + (yL + 11) + 36 * dd ≤ R.locals) (hc : cs ≤ R.cells) (hs : ss ≤ R.slots) (k : AA G X cs ss (pc + 3) lv st σ1) : AA G X cs ss pc lv (a4 :: a3 :: a2 :: a1 :: st) σ :=
  A_callS (av := [a1, a2, a3, a4]) hX hy hw d hM rfl hlen hst hfr hlo hc hs (fun _ _ h => by obtain ⟨rfl, rfl⟩ := h; exact k)
theorem A_S4i {Q : Int32 → aS → Prop} {a1 a2 a3 a4 : Value} (hX : AOk l G X cc own nm nL R) (hy : MkY y yc yL ret 4) (hw : LkS own idx y) (d : decode cc pc = .ok (.invokestatic idx, 3)) (hM : ACt l G y yc yL ret dd 0 0 [a1, a2, a3, a4] σ (iP Q)) (hlen : lv.length = nL) (hst : (st.map fun v => v.category).sum ≤ 8) (hfr : dd + 1 ≤ R.frames) (hlo : 8 + (yL + 11) + 36 * dd ≤ R.locals) (hc : cs ≤ R.cells) (hs : ss ≤ R.slots) (k : ∀ (x : Int32) (σ' : aS), Q x σ' → AA G X cs ss (pc + 3) lv (.int x :: st) σ') : AA G X cs ss pc lv (a4 :: a3 :: a2 :: a1 :: st) σ :=
  A_callS (av := [a1, a2, a3, a4]) hX hy hw d hM rfl hlen hst hfr hlo hc hs (fun _ σ' h => by obtain ⟨x, rfl, h⟩ := h; exact k x σ' h)
theorem A_S4j {Q : Int64 → aS → Prop} {a1 a2 a3 a4 : Value} (hX : AOk l G X cc own nm nL R) (hy : MkY y yc yL ret 4) (hw : LkS own idx y) (d : decode cc pc = .ok (.invokestatic idx, 3)) (hM : ACt l G y yc yL ret dd 0 0 [a1, a2, a3, a4] σ (jP Q)) (hlen : lv.length = nL) (hst : (st.map fun v => v.category).sum ≤ 8) (hfr : dd + 1 ≤ R.frames) (hlo : 8 + (yL + 11) + 36 * dd ≤ R.locals) (hc : cs ≤ R.cells) (hs : ss ≤ R.slots) (k : ∀ (x : Int64) (σ' : aS), Q x σ' → AA G X cs ss (pc + 3) lv (.long x :: st) σ') : AA G X cs ss pc lv (a4 :: a3 :: a2 :: a1 :: st) σ :=
  A_callS (av := [a1, a2, a3, a4]) hX hy hw d hM rfl hlen hst hfr hlo hc hs (fun _ σ' h => by obtain ⟨x, rfl, h⟩ := h; exact k x σ' h)
theorem A_S4v {Q : aS → Prop} {a1 a2 a3 a4 : Value} (hX : AOk l G X cc own nm nL R) (hy : MkY y yc yL ret 4) (hw : LkS own idx y) (d : decode cc pc = .ok (.invokestatic idx, 3)) (hM : ACt l G y yc yL ret dd 0 0 [a1, a2, a3, a4] σ (vP Q)) (hlen : lv.length = nL) (hst : (st.map fun v => v.category).sum ≤ 8) (hfr : dd + 1 ≤ R.frames) (hlo : 8 + (yL + 11) + 36 * dd ≤ R.locals) (hc : cs ≤ R.cells) (hs : ss ≤ R.slots) (k : ∀ σ' : aS, Q σ' → AA G X cs ss (pc + 3) lv st σ') : AA G X cs ss pc lv (a4 :: a3 :: a2 :: a1 :: st) σ :=
  A_callS (av := [a1, a2, a3, a4]) hX hy hw d hM rfl hlen hst hfr hlo hc hs (fun _ σ' h => by obtain ⟨rfl, h⟩ := h; exact k σ' h)
theorem A_V0 {b : Nat} {ci : Nat} {fs : List Value} (hX : AOk l G X cc own nm nL R) (hy : MkY y yc yL ret 0) (hw : LkV own idx y ci) (d : decode cc pc = .ok (.invokevirtual idx, 3)) (ho : σ.2 b = some (aO ci fs)) (hM : ACt l G y yc yL ret dd mc ms [.ref b] σ P) (hlen : lv.length = nL) (hst : (st.map fun v => v.category).sum ≤ 8) (hfr : dd + 1 ≤ R.frames) (hlo : 8 + (yL + 11) + 36 * dd ≤ R.locals) (hc : cs + mc ≤ R.cells) (hs : ss + ms ≤ R.slots) (k : ∀ (r : Option Value) (σ' : aS), P r σ' → AA G X (cs + mc) (ss + ms) (pc + 3) lv (r.toList ++ st) σ') : AA G X cs ss pc lv (.ref b :: st) σ :=
  A_callV (av := []) hX hy hw d ho hM rfl hlen hst hfr hlo hc hs k
theorem A_V0p {b : Nat} {ci : Nat} {fs : List Value} (hX : AOk l G X cc own nm nL R) (hy : MkY y yc yL ret 0) (hw : LkV own idx y ci) (d : decode cc pc = .ok (.invokevirtual idx, 3)) (ho : σ.2 b = some (aO ci fs)) (hM : ACt l G y yc yL ret dd 0 0 [.ref b] σ (P)) (hlen : lv.length = nL) (hst : (st.map fun v => v.category).sum ≤ 8) (hfr : dd + 1 ≤ R.frames) (hlo : 8 + (yL + 11) + 36 * dd ≤ R.locals) (hc : cs ≤ R.cells) (hs : ss ≤ R.slots) (k : ∀ (r : Option Value) (σ' : aS), P r σ' → AA G X cs ss (pc + 3) lv (r.toList ++ st) σ') : AA G X cs ss pc lv (.ref b :: st) σ :=
  A_callV (av := []) hX hy hw d ho hM rfl hlen hst hfr hlo hc hs (k)
theorem A_V0d {w : Value} {σ1 : aS} {b : Nat} {ci : Nat} {fs : List Value} (hX : AOk l G X cc own nm nL R) (hy : MkY y yc yL ret 0) (hw : LkV own idx y ci) (d : decode cc pc = .ok (.invokevirtual idx, 3)) (ho : σ.2 b = some (aO ci fs)) (hM : ACt l G y yc yL ret dd 0 0 [.ref b] σ (dP (some w) σ1)) (hlen : lv.length = nL) (hst : (st.map fun v => v.category).sum ≤ 8) (hfr : dd + 1 ≤ R.frames) (hlo : 8 + (yL + 11) + 36 * dd ≤ R.locals) (hc : cs ≤ R.cells) (hs : ss ≤ R.slots) (k : AA G X cs ss (pc + 3) lv (w :: st) σ1) : AA G X cs ss pc lv (.ref b :: st) σ :=
  A_callV (av := []) hX hy hw d ho hM rfl hlen hst hfr hlo hc hs (fun _ _ h => by obtain ⟨rfl, rfl⟩ := h; exact k)
theorem A_V0e {σ1 : aS} {b : Nat} {ci : Nat} {fs : List Value} (hX : AOk l G X cc own nm nL R) (hy : MkY y yc yL ret 0) (hw : LkV own idx y ci) (d : decode cc pc = .ok (.invokevirtual idx, 3)) (ho : σ.2 b = some (aO ci fs)) (hM : ACt l G y yc yL ret dd 0 0 [.ref b] σ (dP none σ1)) (hlen : lv.length = nL) (hst : (st.map fun v => v.category).sum ≤ 8) (hfr : dd + 1 ≤ R.frames) (hlo : 8 + (yL + 11) + 36 * dd ≤ R.locals) (hc : cs ≤ R.cells) (hs : ss ≤ R.slots) (k : AA G X cs ss (pc + 3) lv st σ1) : AA G X cs ss pc lv (.ref b :: st) σ :=
  A_callV (av := []) hX hy hw d ho hM rfl hlen hst hfr hlo hc hs (fun _ _ h => by obtain ⟨rfl, rfl⟩ := h; exact k)
theorem A_V0i {Q : Int32 → aS → Prop} {b : Nat} {ci : Nat} {fs : List Value} (hX : AOk l G X cc own nm nL R) (hy : MkY y yc yL ret 0) (hw : LkV own idx y ci) (d : decode cc pc = .ok (.invokevirtual idx, 3)) (ho : σ.2 b = some (aO ci fs)) (hM : ACt l G y yc yL ret dd 0 0 [.ref b] σ (iP Q)) (hlen : lv.length = nL) (hst : (st.map fun v => v.category).sum ≤ 8) (hfr : dd + 1 ≤ R.frames) (hlo : 8 + (yL + 11) + 36 * dd ≤ R.locals) (hc : cs ≤ R.cells) (hs : ss ≤ R.slots) (k : ∀ (x : Int32) (σ' : aS), Q x σ' → AA G X cs ss (pc + 3) lv (.int x :: st) σ') : AA G X cs ss pc lv (.ref b :: st) σ :=
  A_callV (av := []) hX hy hw d ho hM rfl hlen hst hfr hlo hc hs (fun _ σ' h => by obtain ⟨x, rfl, h⟩ := h; exact k x σ' h)
theorem A_V0j {Q : Int64 → aS → Prop} {b : Nat} {ci : Nat} {fs : List Value} (hX : AOk l G X cc own nm nL R) (hy : MkY y yc yL ret 0) (hw : LkV own idx y ci) (d : decode cc pc = .ok (.invokevirtual idx, 3)) (ho : σ.2 b = some (aO ci fs)) (hM : ACt l G y yc yL ret dd 0 0 [.ref b] σ (jP Q)) (hlen : lv.length = nL) (hst : (st.map fun v => v.category).sum ≤ 8) (hfr : dd + 1 ≤ R.frames) (hlo : 8 + (yL + 11) + 36 * dd ≤ R.locals) (hc : cs ≤ R.cells) (hs : ss ≤ R.slots) (k : ∀ (x : Int64) (σ' : aS), Q x σ' → AA G X cs ss (pc + 3) lv (.long x :: st) σ') : AA G X cs ss pc lv (.ref b :: st) σ :=
  A_callV (av := []) hX hy hw d ho hM rfl hlen hst hfr hlo hc hs (fun _ σ' h => by obtain ⟨x, rfl, h⟩ := h; exact k x σ' h)
theorem A_V0v {Q : aS → Prop} {b : Nat} {ci : Nat} {fs : List Value} (hX : AOk l G X cc own nm nL R) (hy : MkY y yc yL ret 0) (hw : LkV own idx y ci) (d : decode cc pc = .ok (.invokevirtual idx, 3)) (ho : σ.2 b = some (aO ci fs)) (hM : ACt l G y yc yL ret dd 0 0 [.ref b] σ (vP Q)) (hlen : lv.length = nL) (hst : (st.map fun v => v.category).sum ≤ 8) (hfr : dd + 1 ≤ R.frames) (hlo : 8 + (yL + 11) + 36 * dd ≤ R.locals) (hc : cs ≤ R.cells) (hs : ss ≤ R.slots) (k : ∀ σ' : aS, Q σ' → AA G X cs ss (pc + 3) lv st σ') : AA G X cs ss pc lv (.ref b :: st) σ :=
  A_callV (av := []) hX hy hw d ho hM rfl hlen hst hfr hlo hc hs (fun _ σ' h => by obtain ⟨rfl, h⟩ := h; exact k σ' h)
theorem A_V1 {a1 : Value} {b : Nat} {ci : Nat} {fs : List Value} (hX : AOk l G X cc own nm nL R) (hy : MkY y yc yL ret 1) (hw : LkV own idx y ci) (d : decode cc pc = .ok (.invokevirtual idx, 3)) (ho : σ.2 b = some (aO ci fs)) (hM : ACt l G y yc yL ret dd mc ms [.ref b, a1] σ P) (hlen : lv.length = nL) (hst : (st.map fun v => v.category).sum ≤ 8) (hfr : dd + 1 ≤ R.frames) (hlo : 8 + (yL + 11) + 36 * dd ≤ R.locals) (hc : cs + mc ≤ R.cells) (hs : ss + ms ≤ R.slots) (k : ∀ (r : Option Value) (σ' : aS), P r σ' → AA G X (cs + mc) (ss + ms) (pc + 3) lv (r.toList ++ st) σ') : AA G X cs ss pc lv (a1 :: .ref b :: st) σ :=
  A_callV (av := [a1]) hX hy hw d ho hM rfl hlen hst hfr hlo hc hs k
theorem A_V1p {a1 : Value} {b : Nat} {ci : Nat} {fs : List Value} (hX : AOk l G X cc own nm nL R) (hy : MkY y yc yL ret 1) (hw : LkV own idx y ci) (d : decode cc pc = .ok (.invokevirtual idx, 3)) (ho : σ.2 b = some (aO ci fs)) (hM : ACt l G y yc yL ret dd 0 0 [.ref b, a1] σ (P)) (hlen : lv.length = nL) (hst : (st.map fun v => v.category).sum ≤ 8) (hfr : dd + 1 ≤ R.frames) (hlo : 8 + (yL + 11) + 36 * dd ≤ R.locals) (hc : cs ≤ R.cells) (hs : ss ≤ R.slots) (k : ∀ (r : Option Value) (σ' : aS), P r σ' → AA G X cs ss (pc + 3) lv (r.toList ++ st) σ') : AA G X cs ss pc lv (a1 :: .ref b :: st) σ :=
  A_callV (av := [a1]) hX hy hw d ho hM rfl hlen hst hfr hlo hc hs (k)
theorem A_V1d {w : Value} {σ1 : aS} {a1 : Value} {b : Nat} {ci : Nat} {fs : List Value} (hX : AOk l G X cc own nm nL R) (hy : MkY y yc yL ret 1) (hw : LkV own idx y ci) (d : decode cc pc = .ok (.invokevirtual idx, 3)) (ho : σ.2 b = some (aO ci fs)) (hM : ACt l G y yc yL ret dd 0 0 [.ref b, a1] σ (dP (some w) σ1)) (hlen : lv.length = nL) (hst : (st.map fun v => v.category).sum ≤ 8) (hfr : dd + 1 ≤ R.frames) (hlo : 8 + (yL + 11) + 36 * dd ≤ R.locals) (hc : cs ≤ R.cells) (hs : ss ≤ R.slots) (k : AA G X cs ss (pc + 3) lv (w :: st) σ1) : AA G X cs ss pc lv (a1 :: .ref b :: st) σ :=
  A_callV (av := [a1]) hX hy hw d ho hM rfl hlen hst hfr hlo hc hs (fun _ _ h => by obtain ⟨rfl, rfl⟩ := h; exact k)
theorem A_V1e {σ1 : aS} {a1 : Value} {b : Nat} {ci : Nat} {fs : List Value} (hX : AOk l G X cc own nm nL R) (hy : MkY y yc yL ret 1) (hw : LkV own idx y ci) (d : decode cc pc = .ok (.invokevirtual idx, 3)) (ho : σ.2 b = some (aO ci fs)) (hM : ACt l G y yc yL ret dd 0 0 [.ref b, a1] σ (dP none σ1)) (hlen : lv.length = nL) (hst : (st.map fun v => v.category).sum ≤ 8) (hfr : dd + 1 ≤ R.frames) (hlo : 8 + (yL + 11) + 36 * dd ≤ R.locals) (hc : cs ≤ R.cells) (hs : ss ≤ R.slots) (k : AA G X cs ss (pc + 3) lv st σ1) : AA G X cs ss pc lv (a1 :: .ref b :: st) σ :=
  A_callV (av := [a1]) hX hy hw d ho hM rfl hlen hst hfr hlo hc hs (fun _ _ h => by obtain ⟨rfl, rfl⟩ := h; exact k)
theorem A_V1i {Q : Int32 → aS → Prop} {a1 : Value} {b : Nat} {ci : Nat} {fs : List Value} (hX : AOk l G X cc own nm nL R) (hy : MkY y yc yL ret 1) (hw : LkV own idx y ci) (d : decode cc pc = .ok (.invokevirtual idx, 3)) (ho : σ.2 b = some (aO ci fs)) (hM : ACt l G y yc yL ret dd 0 0 [.ref b, a1] σ (iP Q)) (hlen : lv.length = nL) (hst : (st.map fun v => v.category).sum ≤ 8) (hfr : dd + 1 ≤ R.frames) (hlo : 8 + (yL + 11) + 36 * dd ≤ R.locals) (hc : cs ≤ R.cells) (hs : ss ≤ R.slots) (k : ∀ (x : Int32) (σ' : aS), Q x σ' → AA G X cs ss (pc + 3) lv (.int x :: st) σ') : AA G X cs ss pc lv (a1 :: .ref b :: st) σ :=
  A_callV (av := [a1]) hX hy hw d ho hM rfl hlen hst hfr hlo hc hs (fun _ σ' h => by obtain ⟨x, rfl, h⟩ := h; exact k x σ' h)
theorem A_V1j {Q : Int64 → aS → Prop} {a1 : Value} {b : Nat} {ci : Nat} {fs : List Value} (hX : AOk l G X cc own nm nL R) (hy : MkY y yc yL ret 1) (hw : LkV own idx y ci) (d : decode cc pc = .ok (.invokevirtual idx, 3)) (ho : σ.2 b = some (aO ci fs)) (hM : ACt l G y yc yL ret dd 0 0 [.ref b, a1] σ (jP Q)) (hlen : lv.length = nL) (hst : (st.map fun v => v.category).sum ≤ 8) (hfr : dd + 1 ≤ R.frames) (hlo : 8 + (yL + 11) + 36 * dd ≤ R.locals) (hc : cs ≤ R.cells) (hs : ss ≤ R.slots) (k : ∀ (x : Int64) (σ' : aS), Q x σ' → AA G X cs ss (pc + 3) lv (.long x :: st) σ') : AA G X cs ss pc lv (a1 :: .ref b :: st) σ :=
  A_callV (av := [a1]) hX hy hw d ho hM rfl hlen hst hfr hlo hc hs (fun _ σ' h => by obtain ⟨x, rfl, h⟩ := h; exact k x σ' h)
theorem A_V1v {Q : aS → Prop} {a1 : Value} {b : Nat} {ci : Nat} {fs : List Value} (hX : AOk l G X cc own nm nL R) (hy : MkY y yc yL ret 1) (hw : LkV own idx y ci) (d : decode cc pc = .ok (.invokevirtual idx, 3)) (ho : σ.2 b = some (aO ci fs)) (hM : ACt l G y yc yL ret dd 0 0 [.ref b, a1] σ (vP Q)) (hlen : lv.length = nL) (hst : (st.map fun v => v.category).sum ≤ 8) (hfr : dd + 1 ≤ R.frames) (hlo : 8 + (yL + 11) + 36 * dd ≤ R.locals) (hc : cs ≤ R.cells) (hs : ss ≤ R.slots) (k : ∀ σ' : aS, Q σ' → AA G X cs ss (pc + 3) lv st σ') : AA G X cs ss pc lv (a1 :: .ref b :: st) σ :=
  A_callV (av := [a1]) hX hy hw d ho hM rfl hlen hst hfr hlo hc hs (fun _ σ' h => by obtain ⟨rfl, h⟩ := h; exact k σ' h)
theorem A_V2 {a1 a2 : Value} {b : Nat} {ci : Nat} {fs : List Value} (hX : AOk l G X cc own nm nL R) (hy : MkY y yc yL ret 2) (hw : LkV own idx y ci) (d : decode cc pc = .ok (.invokevirtual idx, 3)) (ho : σ.2 b = some (aO ci fs)) (hM : ACt l G y yc yL ret dd mc ms [.ref b, a1, a2] σ P) (hlen : lv.length = nL) (hst : (st.map fun v => v.category).sum ≤ 8) (hfr : dd + 1 ≤ R.frames) (hlo : 8 + (yL + 11) + 36 * dd ≤ R.locals) (hc : cs + mc ≤ R.cells) (hs : ss + ms ≤ R.slots) (k : ∀ (r : Option Value) (σ' : aS), P r σ' → AA G X (cs + mc) (ss + ms) (pc + 3) lv (r.toList ++ st) σ') : AA G X cs ss pc lv (a2 :: a1 :: .ref b :: st) σ :=
  A_callV (av := [a1, a2]) hX hy hw d ho hM rfl hlen hst hfr hlo hc hs k
theorem A_V2p {a1 a2 : Value} {b : Nat} {ci : Nat} {fs : List Value} (hX : AOk l G X cc own nm nL R) (hy : MkY y yc yL ret 2) (hw : LkV own idx y ci) (d : decode cc pc = .ok (.invokevirtual idx, 3)) (ho : σ.2 b = some (aO ci fs)) (hM : ACt l G y yc yL ret dd 0 0 [.ref b, a1, a2] σ (P)) (hlen : lv.length = nL) (hst : (st.map fun v => v.category).sum ≤ 8) (hfr : dd + 1 ≤ R.frames) (hlo : 8 + (yL + 11) + 36 * dd ≤ R.locals) (hc : cs ≤ R.cells) (hs : ss ≤ R.slots) (k : ∀ (r : Option Value) (σ' : aS), P r σ' → AA G X cs ss (pc + 3) lv (r.toList ++ st) σ') : AA G X cs ss pc lv (a2 :: a1 :: .ref b :: st) σ :=
  A_callV (av := [a1, a2]) hX hy hw d ho hM rfl hlen hst hfr hlo hc hs (k)
theorem A_V2d {w : Value} {σ1 : aS} {a1 a2 : Value} {b : Nat} {ci : Nat} {fs : List Value} (hX : AOk l G X cc own nm nL R) (hy : MkY y yc yL ret 2) (hw : LkV own idx y ci) (d : decode cc pc = .ok (.invokevirtual idx, 3)) (ho : σ.2 b = some (aO ci fs)) (hM : ACt l G y yc yL ret dd 0 0 [.ref b, a1, a2] σ (dP (some w) σ1)) (hlen : lv.length = nL) (hst : (st.map fun v => v.category).sum ≤ 8) (hfr : dd + 1 ≤ R.frames) (hlo : 8 + (yL + 11) + 36 * dd ≤ R.locals) (hc : cs ≤ R.cells) (hs : ss ≤ R.slots) (k : AA G X cs ss (pc + 3) lv (w :: st) σ1) : AA G X cs ss pc lv (a2 :: a1 :: .ref b :: st) σ :=
  A_callV (av := [a1, a2]) hX hy hw d ho hM rfl hlen hst hfr hlo hc hs (fun _ _ h => by obtain ⟨rfl, rfl⟩ := h; exact k)
theorem A_V2e {σ1 : aS} {a1 a2 : Value} {b : Nat} {ci : Nat} {fs : List Value} (hX : AOk l G X cc own nm nL R) (hy : MkY y yc yL ret 2) (hw : LkV own idx y ci) (d : decode cc pc = .ok (.invokevirtual idx, 3)) (ho : σ.2 b = some (aO ci fs)) (hM : ACt l G y yc yL ret dd 0 0 [.ref b, a1, a2] σ (dP none σ1)) (hlen : lv.length = nL) (hst : (st.map fun v => v.category).sum ≤ 8) (hfr : dd + 1 ≤ R.frames) (hlo : 8 + (yL + 11) + 36 * dd ≤ R.locals) (hc : cs ≤ R.cells) (hs : ss ≤ R.slots) (k : AA G X cs ss (pc + 3) lv st σ1) : AA G X cs ss pc lv (a2 :: a1 :: .ref b :: st) σ :=
  A_callV (av := [a1, a2]) hX hy hw d ho hM rfl hlen hst hfr hlo hc hs (fun _ _ h => by obtain ⟨rfl, rfl⟩ := h; exact k)
theorem A_V2i {Q : Int32 → aS → Prop} {a1 a2 : Value} {b : Nat} {ci : Nat} {fs : List Value} (hX : AOk l G X cc own nm nL R) (hy : MkY y yc yL ret 2) (hw : LkV own idx y ci) (d : decode cc pc = .ok (.invokevirtual idx, 3)) (ho : σ.2 b = some (aO ci fs)) (hM : ACt l G y yc yL ret dd 0 0 [.ref b, a1, a2] σ (iP Q)) (hlen : lv.length = nL) (hst : (st.map fun v => v.category).sum ≤ 8) (hfr : dd + 1 ≤ R.frames) (hlo : 8 + (yL + 11) + 36 * dd ≤ R.locals) (hc : cs ≤ R.cells) (hs : ss ≤ R.slots) (k : ∀ (x : Int32) (σ' : aS), Q x σ' → AA G X cs ss (pc + 3) lv (.int x :: st) σ') : AA G X cs ss pc lv (a2 :: a1 :: .ref b :: st) σ :=
  A_callV (av := [a1, a2]) hX hy hw d ho hM rfl hlen hst hfr hlo hc hs (fun _ σ' h => by obtain ⟨x, rfl, h⟩ := h; exact k x σ' h)
theorem A_V2j {Q : Int64 → aS → Prop} {a1 a2 : Value} {b : Nat} {ci : Nat} {fs : List Value} (hX : AOk l G X cc own nm nL R) (hy : MkY y yc yL ret 2) (hw : LkV own idx y ci) (d : decode cc pc = .ok (.invokevirtual idx, 3)) (ho : σ.2 b = some (aO ci fs)) (hM : ACt l G y yc yL ret dd 0 0 [.ref b, a1, a2] σ (jP Q)) (hlen : lv.length = nL) (hst : (st.map fun v => v.category).sum ≤ 8) (hfr : dd + 1 ≤ R.frames) (hlo : 8 + (yL + 11) + 36 * dd ≤ R.locals) (hc : cs ≤ R.cells) (hs : ss ≤ R.slots) (k : ∀ (x : Int64) (σ' : aS), Q x σ' → AA G X cs ss (pc + 3) lv (.long x :: st) σ') : AA G X cs ss pc lv (a2 :: a1 :: .ref b :: st) σ :=
  A_callV (av := [a1, a2]) hX hy hw d ho hM rfl hlen hst hfr hlo hc hs (fun _ σ' h => by obtain ⟨x, rfl, h⟩ := h; exact k x σ' h)
theorem A_V2v {Q : aS → Prop} {a1 a2 : Value} {b : Nat} {ci : Nat} {fs : List Value} (hX : AOk l G X cc own nm nL R) (hy : MkY y yc yL ret 2) (hw : LkV own idx y ci) (d : decode cc pc = .ok (.invokevirtual idx, 3)) (ho : σ.2 b = some (aO ci fs)) (hM : ACt l G y yc yL ret dd 0 0 [.ref b, a1, a2] σ (vP Q)) (hlen : lv.length = nL) (hst : (st.map fun v => v.category).sum ≤ 8) (hfr : dd + 1 ≤ R.frames) (hlo : 8 + (yL + 11) + 36 * dd ≤ R.locals) (hc : cs ≤ R.cells) (hs : ss ≤ R.slots) (k : ∀ σ' : aS, Q σ' → AA G X cs ss (pc + 3) lv st σ') : AA G X cs ss pc lv (a2 :: a1 :: .ref b :: st) σ :=
  A_callV (av := [a1, a2]) hX hy hw d ho hM rfl hlen hst hfr hlo hc hs (fun _ σ' h => by obtain ⟨rfl, h⟩ := h; exact k σ' h)
theorem A_V3 {a1 a2 a3 : Value} {b : Nat} {ci : Nat} {fs : List Value} (hX : AOk l G X cc own nm nL R) (hy : MkY y yc yL ret 3) (hw : LkV own idx y ci) (d : decode cc pc = .ok (.invokevirtual idx, 3)) (ho : σ.2 b = some (aO ci fs)) (hM : ACt l G y yc yL ret dd mc ms [.ref b, a1, a2, a3] σ P) (hlen : lv.length = nL) (hst : (st.map fun v => v.category).sum ≤ 8) (hfr : dd + 1 ≤ R.frames) (hlo : 8 + (yL + 11) + 36 * dd ≤ R.locals) (hc : cs + mc ≤ R.cells) (hs : ss + ms ≤ R.slots) (k : ∀ (r : Option Value) (σ' : aS), P r σ' → AA G X (cs + mc) (ss + ms) (pc + 3) lv (r.toList ++ st) σ') : AA G X cs ss pc lv (a3 :: a2 :: a1 :: .ref b :: st) σ :=
  A_callV (av := [a1, a2, a3]) hX hy hw d ho hM rfl hlen hst hfr hlo hc hs k
theorem A_V3p {a1 a2 a3 : Value} {b : Nat} {ci : Nat} {fs : List Value} (hX : AOk l G X cc own nm nL R) (hy : MkY y yc yL ret 3) (hw : LkV own idx y ci) (d : decode cc pc = .ok (.invokevirtual idx, 3)) (ho : σ.2 b = some (aO ci fs)) (hM : ACt l G y yc yL ret dd 0 0 [.ref b, a1, a2, a3] σ (P)) (hlen : lv.length = nL) (hst : (st.map fun v => v.category).sum ≤ 8) (hfr : dd + 1 ≤ R.frames) (hlo : 8 + (yL + 11) + 36 * dd ≤ R.locals) (hc : cs ≤ R.cells) (hs : ss ≤ R.slots) (k : ∀ (r : Option Value) (σ' : aS), P r σ' → AA G X cs ss (pc + 3) lv (r.toList ++ st) σ') : AA G X cs ss pc lv (a3 :: a2 :: a1 :: .ref b :: st) σ :=
  A_callV (av := [a1, a2, a3]) hX hy hw d ho hM rfl hlen hst hfr hlo hc hs (k)
theorem A_V3d {w : Value} {σ1 : aS} {a1 a2 a3 : Value} {b : Nat} {ci : Nat} {fs : List Value} (hX : AOk l G X cc own nm nL R) (hy : MkY y yc yL ret 3) (hw : LkV own idx y ci) (d : decode cc pc = .ok (.invokevirtual idx, 3)) (ho : σ.2 b = some (aO ci fs)) (hM : ACt l G y yc yL ret dd 0 0 [.ref b, a1, a2, a3] σ (dP (some w) σ1)) (hlen : lv.length = nL) (hst : (st.map fun v => v.category).sum ≤ 8) (hfr : dd + 1 ≤ R.frames) (hlo : 8 + (yL + 11) + 36 * dd ≤ R.locals) (hc : cs ≤ R.cells) (hs : ss ≤ R.slots) (k : AA G X cs ss (pc + 3) lv (w :: st) σ1) : AA G X cs ss pc lv (a3 :: a2 :: a1 :: .ref b :: st) σ :=
  A_callV (av := [a1, a2, a3]) hX hy hw d ho hM rfl hlen hst hfr hlo hc hs (fun _ _ h => by obtain ⟨rfl, rfl⟩ := h; exact k)
theorem A_V3e {σ1 : aS} {a1 a2 a3 : Value} {b : Nat} {ci : Nat} {fs : List Value} (hX : AOk l G X cc own nm nL R) (hy : MkY y yc yL ret 3) (hw : LkV own idx y ci) (d : decode cc pc = .ok (.invokevirtual idx, 3)) (ho : σ.2 b = some (aO ci fs)) (hM : ACt l G y yc yL ret dd 0 0 [.ref b, a1, a2, a3] σ (dP none σ1)) (hlen : lv.length = nL) (hst : (st.map fun v => v.category).sum ≤ 8) (hfr : dd + 1 ≤ R.frames) (hlo : 8 + (yL + 11) + 36 * dd ≤ R.locals) (hc : cs ≤ R.cells) (hs : ss ≤ R.slots) (k : AA G X cs ss (pc + 3) lv st σ1) : AA G X cs ss pc lv (a3 :: a2 :: a1 :: .ref b :: st) σ :=
  A_callV (av := [a1, a2, a3]) hX hy hw d ho hM rfl hlen hst hfr hlo hc hs (fun _ _ h => by obtain ⟨rfl, rfl⟩ := h; exact k)
theorem A_V3i {Q : Int32 → aS → Prop} {a1 a2 a3 : Value} {b : Nat} {ci : Nat} {fs : List Value} (hX : AOk l G X cc own nm nL R) (hy : MkY y yc yL ret 3) (hw : LkV own idx y ci) (d : decode cc pc = .ok (.invokevirtual idx, 3)) (ho : σ.2 b = some (aO ci fs)) (hM : ACt l G y yc yL ret dd 0 0 [.ref b, a1, a2, a3] σ (iP Q)) (hlen : lv.length = nL) (hst : (st.map fun v => v.category).sum ≤ 8) (hfr : dd + 1 ≤ R.frames) (hlo : 8 + (yL + 11) + 36 * dd ≤ R.locals) (hc : cs ≤ R.cells) (hs : ss ≤ R.slots) (k : ∀ (x : Int32) (σ' : aS), Q x σ' → AA G X cs ss (pc + 3) lv (.int x :: st) σ') : AA G X cs ss pc lv (a3 :: a2 :: a1 :: .ref b :: st) σ :=
  A_callV (av := [a1, a2, a3]) hX hy hw d ho hM rfl hlen hst hfr hlo hc hs (fun _ σ' h => by obtain ⟨x, rfl, h⟩ := h; exact k x σ' h)
theorem A_V3j {Q : Int64 → aS → Prop} {a1 a2 a3 : Value} {b : Nat} {ci : Nat} {fs : List Value} (hX : AOk l G X cc own nm nL R) (hy : MkY y yc yL ret 3) (hw : LkV own idx y ci) (d : decode cc pc = .ok (.invokevirtual idx, 3)) (ho : σ.2 b = some (aO ci fs)) (hM : ACt l G y yc yL ret dd 0 0 [.ref b, a1, a2, a3] σ (jP Q)) (hlen : lv.length = nL) (hst : (st.map fun v => v.category).sum ≤ 8) (hfr : dd + 1 ≤ R.frames) (hlo : 8 + (yL + 11) + 36 * dd ≤ R.locals) (hc : cs ≤ R.cells) (hs : ss ≤ R.slots) (k : ∀ (x : Int64) (σ' : aS), Q x σ' → AA G X cs ss (pc + 3) lv (.long x :: st) σ') : AA G X cs ss pc lv (a3 :: a2 :: a1 :: .ref b :: st) σ :=
  A_callV (av := [a1, a2, a3]) hX hy hw d ho hM rfl hlen hst hfr hlo hc hs (fun _ σ' h => by obtain ⟨x, rfl, h⟩ := h; exact k x σ' h)
theorem A_V3v {Q : aS → Prop} {a1 a2 a3 : Value} {b : Nat} {ci : Nat} {fs : List Value} (hX : AOk l G X cc own nm nL R) (hy : MkY y yc yL ret 3) (hw : LkV own idx y ci) (d : decode cc pc = .ok (.invokevirtual idx, 3)) (ho : σ.2 b = some (aO ci fs)) (hM : ACt l G y yc yL ret dd 0 0 [.ref b, a1, a2, a3] σ (vP Q)) (hlen : lv.length = nL) (hst : (st.map fun v => v.category).sum ≤ 8) (hfr : dd + 1 ≤ R.frames) (hlo : 8 + (yL + 11) + 36 * dd ≤ R.locals) (hc : cs ≤ R.cells) (hs : ss ≤ R.slots) (k : ∀ σ' : aS, Q σ' → AA G X cs ss (pc + 3) lv st σ') : AA G X cs ss pc lv (a3 :: a2 :: a1 :: .ref b :: st) σ :=
  A_callV (av := [a1, a2, a3]) hX hy hw d ho hM rfl hlen hst hfr hlo hc hs (fun _ σ' h => by obtain ⟨rfl, h⟩ := h; exact k σ' h)
theorem A_V4 {a1 a2 a3 a4 : Value} {b : Nat} {ci : Nat} {fs : List Value} (hX : AOk l G X cc own nm nL R) (hy : MkY y yc yL ret 4) (hw : LkV own idx y ci) (d : decode cc pc = .ok (.invokevirtual idx, 3)) (ho : σ.2 b = some (aO ci fs)) (hM : ACt l G y yc yL ret dd mc ms [.ref b, a1, a2, a3, a4] σ P) (hlen : lv.length = nL) (hst : (st.map fun v => v.category).sum ≤ 8) (hfr : dd + 1 ≤ R.frames) (hlo : 8 + (yL + 11) + 36 * dd ≤ R.locals) (hc : cs + mc ≤ R.cells) (hs : ss + ms ≤ R.slots) (k : ∀ (r : Option Value) (σ' : aS), P r σ' → AA G X (cs + mc) (ss + ms) (pc + 3) lv (r.toList ++ st) σ') : AA G X cs ss pc lv (a4 :: a3 :: a2 :: a1 :: .ref b :: st) σ :=
  A_callV (av := [a1, a2, a3, a4]) hX hy hw d ho hM rfl hlen hst hfr hlo hc hs k
theorem A_V4p {a1 a2 a3 a4 : Value} {b : Nat} {ci : Nat} {fs : List Value} (hX : AOk l G X cc own nm nL R) (hy : MkY y yc yL ret 4) (hw : LkV own idx y ci) (d : decode cc pc = .ok (.invokevirtual idx, 3)) (ho : σ.2 b = some (aO ci fs)) (hM : ACt l G y yc yL ret dd 0 0 [.ref b, a1, a2, a3, a4] σ (P)) (hlen : lv.length = nL) (hst : (st.map fun v => v.category).sum ≤ 8) (hfr : dd + 1 ≤ R.frames) (hlo : 8 + (yL + 11) + 36 * dd ≤ R.locals) (hc : cs ≤ R.cells) (hs : ss ≤ R.slots) (k : ∀ (r : Option Value) (σ' : aS), P r σ' → AA G X cs ss (pc + 3) lv (r.toList ++ st) σ') : AA G X cs ss pc lv (a4 :: a3 :: a2 :: a1 :: .ref b :: st) σ :=
  A_callV (av := [a1, a2, a3, a4]) hX hy hw d ho hM rfl hlen hst hfr hlo hc hs (k)
theorem A_V4d {w : Value} {σ1 : aS} {a1 a2 a3 a4 : Value} {b : Nat} {ci : Nat} {fs : List Value} (hX : AOk l G X cc own nm nL R) (hy : MkY y yc yL ret 4) (hw : LkV own idx y ci) (d : decode cc pc = .ok (.invokevirtual idx, 3)) (ho : σ.2 b = some (aO ci fs)) (hM : ACt l G y yc yL ret dd 0 0 [.ref b, a1, a2, a3, a4] σ (dP (some w) σ1)) (hlen : lv.length = nL) (hst : (st.map fun v => v.category).sum ≤ 8) (hfr : dd + 1 ≤ R.frames) (hlo : 8 + (yL + 11) + 36 * dd ≤ R.locals) (hc : cs ≤ R.cells) (hs : ss ≤ R.slots) (k : AA G X cs ss (pc + 3) lv (w :: st) σ1) : AA G X cs ss pc lv (a4 :: a3 :: a2 :: a1 :: .ref b :: st) σ :=
  A_callV (av := [a1, a2, a3, a4]) hX hy hw d ho hM rfl hlen hst hfr hlo hc hs (fun _ _ h => by obtain ⟨rfl, rfl⟩ := h; exact k)
theorem A_V4e {σ1 : aS} {a1 a2 a3 a4 : Value} {b : Nat} {ci : Nat} {fs : List Value} (hX : AOk l G X cc own nm nL R) (hy : MkY y yc yL ret 4) (hw : LkV own idx y ci) (d : decode cc pc = .ok (.invokevirtual idx, 3)) (ho : σ.2 b = some (aO ci fs)) (hM : ACt l G y yc yL ret dd 0 0 [.ref b, a1, a2, a3, a4] σ (dP none σ1)) (hlen : lv.length = nL) (hst : (st.map fun v => v.category).sum ≤ 8) (hfr : dd + 1 ≤ R.frames) (hlo : 8 + (yL + 11) + 36 * dd ≤ R.locals) (hc : cs ≤ R.cells) (hs : ss ≤ R.slots) (k : AA G X cs ss (pc + 3) lv st σ1) : AA G X cs ss pc lv (a4 :: a3 :: a2 :: a1 :: .ref b :: st) σ :=
  A_callV (av := [a1, a2, a3, a4]) hX hy hw d ho hM rfl hlen hst hfr hlo hc hs (fun _ _ h => by obtain ⟨rfl, rfl⟩ := h; exact k)
theorem A_V4i {Q : Int32 → aS → Prop} {a1 a2 a3 a4 : Value} {b : Nat} {ci : Nat} {fs : List Value} (hX : AOk l G X cc own nm nL R) (hy : MkY y yc yL ret 4) (hw : LkV own idx y ci) (d : decode cc pc = .ok (.invokevirtual idx, 3)) (ho : σ.2 b = some (aO ci fs)) (hM : ACt l G y yc yL ret dd 0 0 [.ref b, a1, a2, a3, a4] σ (iP Q)) (hlen : lv.length = nL) (hst : (st.map fun v => v.category).sum ≤ 8) (hfr : dd + 1 ≤ R.frames) (hlo : 8 + (yL + 11) + 36 * dd ≤ R.locals) (hc : cs ≤ R.cells) (hs : ss ≤ R.slots) (k : ∀ (x : Int32) (σ' : aS), Q x σ' → AA G X cs ss (pc + 3) lv (.int x :: st) σ') : AA G X cs ss pc lv (a4 :: a3 :: a2 :: a1 :: .ref b :: st) σ :=
  A_callV (av := [a1, a2, a3, a4]) hX hy hw d ho hM rfl hlen hst hfr hlo hc hs (fun _ σ' h => by obtain ⟨x, rfl, h⟩ := h; exact k x σ' h)
theorem A_V4j {Q : Int64 → aS → Prop} {a1 a2 a3 a4 : Value} {b : Nat} {ci : Nat} {fs : List Value} (hX : AOk l G X cc own nm nL R) (hy : MkY y yc yL ret 4) (hw : LkV own idx y ci) (d : decode cc pc = .ok (.invokevirtual idx, 3)) (ho : σ.2 b = some (aO ci fs)) (hM : ACt l G y yc yL ret dd 0 0 [.ref b, a1, a2, a3, a4] σ (jP Q)) (hlen : lv.length = nL) (hst : (st.map fun v => v.category).sum ≤ 8) (hfr : dd + 1 ≤ R.frames) (hlo : 8 + (yL + 11) + 36 * dd ≤ R.locals) (hc : cs ≤ R.cells) (hs : ss ≤ R.slots) (k : ∀ (x : Int64) (σ' : aS), Q x σ' → AA G X cs ss (pc + 3) lv (.long x :: st) σ') : AA G X cs ss pc lv (a4 :: a3 :: a2 :: a1 :: .ref b :: st) σ :=
  A_callV (av := [a1, a2, a3, a4]) hX hy hw d ho hM rfl hlen hst hfr hlo hc hs (fun _ σ' h => by obtain ⟨x, rfl, h⟩ := h; exact k x σ' h)
theorem A_V4v {Q : aS → Prop} {a1 a2 a3 a4 : Value} {b : Nat} {ci : Nat} {fs : List Value} (hX : AOk l G X cc own nm nL R) (hy : MkY y yc yL ret 4) (hw : LkV own idx y ci) (d : decode cc pc = .ok (.invokevirtual idx, 3)) (ho : σ.2 b = some (aO ci fs)) (hM : ACt l G y yc yL ret dd 0 0 [.ref b, a1, a2, a3, a4] σ (vP Q)) (hlen : lv.length = nL) (hst : (st.map fun v => v.category).sum ≤ 8) (hfr : dd + 1 ≤ R.frames) (hlo : 8 + (yL + 11) + 36 * dd ≤ R.locals) (hc : cs ≤ R.cells) (hs : ss ≤ R.slots) (k : ∀ σ' : aS, Q σ' → AA G X cs ss (pc + 3) lv st σ') : AA G X cs ss pc lv (a4 :: a3 :: a2 :: a1 :: .ref b :: st) σ :=
  A_callV (av := [a1, a2, a3, a4]) hX hy hw d ho hM rfl hlen hst hfr hlo hc hs (fun _ σ' h => by obtain ⟨rfl, h⟩ := h; exact k σ' h)
theorem A_I0 {b : Nat} (hX : AOk l G X cc own nm nL R) (hy : MkY y yc yL none 0) (hw : LkI own idx y) (d : decode cc pc = .ok (.invokespecial idx, 3)) (hM : ACt l G y yc yL none dd mc ms [.ref b] σ P) (hlen : lv.length = nL) (hst : (st.map fun v => v.category).sum ≤ 8) (hfr : dd + 1 ≤ R.frames) (hlo : 8 + (yL + 11) + 36 * dd ≤ R.locals) (hc : cs + mc ≤ R.cells) (hs : ss + ms ≤ R.slots) (k : ∀ (r : Option Value) (σ' : aS), P r σ' → AA G X (cs + mc) (ss + ms) (pc + 3) lv (r.toList ++ st) σ') : AA G X cs ss pc lv (.ref b :: st) σ :=
  A_callI (av := []) hX hy hw d hM rfl hlen hst hfr hlo hc hs k
theorem A_I0p {b : Nat} (hX : AOk l G X cc own nm nL R) (hy : MkY y yc yL none 0) (hw : LkI own idx y) (d : decode cc pc = .ok (.invokespecial idx, 3)) (hM : ACt l G y yc yL none dd 0 0 [.ref b] σ (P)) (hlen : lv.length = nL) (hst : (st.map fun v => v.category).sum ≤ 8) (hfr : dd + 1 ≤ R.frames) (hlo : 8 + (yL + 11) + 36 * dd ≤ R.locals) (hc : cs ≤ R.cells) (hs : ss ≤ R.slots) (k : ∀ (r : Option Value) (σ' : aS), P r σ' → AA G X cs ss (pc + 3) lv (r.toList ++ st) σ') : AA G X cs ss pc lv (.ref b :: st) σ :=
  A_callI (av := []) hX hy hw d hM rfl hlen hst hfr hlo hc hs (k)
theorem A_I0e {σ1 : aS} {b : Nat} (hX : AOk l G X cc own nm nL R) (hy : MkY y yc yL none 0) (hw : LkI own idx y) (d : decode cc pc = .ok (.invokespecial idx, 3)) (hM : ACt l G y yc yL none dd 0 0 [.ref b] σ (dP none σ1)) (hlen : lv.length = nL) (hst : (st.map fun v => v.category).sum ≤ 8) (hfr : dd + 1 ≤ R.frames) (hlo : 8 + (yL + 11) + 36 * dd ≤ R.locals) (hc : cs ≤ R.cells) (hs : ss ≤ R.slots) (k : AA G X cs ss (pc + 3) lv st σ1) : AA G X cs ss pc lv (.ref b :: st) σ :=
  A_callI (av := []) hX hy hw d hM rfl hlen hst hfr hlo hc hs (fun _ _ h => by obtain ⟨rfl, rfl⟩ := h; exact k)
theorem A_I0v {Q : aS → Prop} {b : Nat} (hX : AOk l G X cc own nm nL R) (hy : MkY y yc yL none 0) (hw : LkI own idx y) (d : decode cc pc = .ok (.invokespecial idx, 3)) (hM : ACt l G y yc yL none dd 0 0 [.ref b] σ (vP Q)) (hlen : lv.length = nL) (hst : (st.map fun v => v.category).sum ≤ 8) (hfr : dd + 1 ≤ R.frames) (hlo : 8 + (yL + 11) + 36 * dd ≤ R.locals) (hc : cs ≤ R.cells) (hs : ss ≤ R.slots) (k : ∀ σ' : aS, Q σ' → AA G X cs ss (pc + 3) lv st σ') : AA G X cs ss pc lv (.ref b :: st) σ :=
  A_callI (av := []) hX hy hw d hM rfl hlen hst hfr hlo hc hs (fun _ σ' h => by obtain ⟨rfl, h⟩ := h; exact k σ' h)
theorem A_I1 {a1 : Value} {b : Nat} (hX : AOk l G X cc own nm nL R) (hy : MkY y yc yL none 1) (hw : LkI own idx y) (d : decode cc pc = .ok (.invokespecial idx, 3)) (hM : ACt l G y yc yL none dd mc ms [.ref b, a1] σ P) (hlen : lv.length = nL) (hst : (st.map fun v => v.category).sum ≤ 8) (hfr : dd + 1 ≤ R.frames) (hlo : 8 + (yL + 11) + 36 * dd ≤ R.locals) (hc : cs + mc ≤ R.cells) (hs : ss + ms ≤ R.slots) (k : ∀ (r : Option Value) (σ' : aS), P r σ' → AA G X (cs + mc) (ss + ms) (pc + 3) lv (r.toList ++ st) σ') : AA G X cs ss pc lv (a1 :: .ref b :: st) σ :=
  A_callI (av := [a1]) hX hy hw d hM rfl hlen hst hfr hlo hc hs k
theorem A_I1p {a1 : Value} {b : Nat} (hX : AOk l G X cc own nm nL R) (hy : MkY y yc yL none 1) (hw : LkI own idx y) (d : decode cc pc = .ok (.invokespecial idx, 3)) (hM : ACt l G y yc yL none dd 0 0 [.ref b, a1] σ (P)) (hlen : lv.length = nL) (hst : (st.map fun v => v.category).sum ≤ 8) (hfr : dd + 1 ≤ R.frames) (hlo : 8 + (yL + 11) + 36 * dd ≤ R.locals) (hc : cs ≤ R.cells) (hs : ss ≤ R.slots) (k : ∀ (r : Option Value) (σ' : aS), P r σ' → AA G X cs ss (pc + 3) lv (r.toList ++ st) σ') : AA G X cs ss pc lv (a1 :: .ref b :: st) σ :=
  A_callI (av := [a1]) hX hy hw d hM rfl hlen hst hfr hlo hc hs (k)
theorem A_I1e {σ1 : aS} {a1 : Value} {b : Nat} (hX : AOk l G X cc own nm nL R) (hy : MkY y yc yL none 1) (hw : LkI own idx y) (d : decode cc pc = .ok (.invokespecial idx, 3)) (hM : ACt l G y yc yL none dd 0 0 [.ref b, a1] σ (dP none σ1)) (hlen : lv.length = nL) (hst : (st.map fun v => v.category).sum ≤ 8) (hfr : dd + 1 ≤ R.frames) (hlo : 8 + (yL + 11) + 36 * dd ≤ R.locals) (hc : cs ≤ R.cells) (hs : ss ≤ R.slots) (k : AA G X cs ss (pc + 3) lv st σ1) : AA G X cs ss pc lv (a1 :: .ref b :: st) σ :=
  A_callI (av := [a1]) hX hy hw d hM rfl hlen hst hfr hlo hc hs (fun _ _ h => by obtain ⟨rfl, rfl⟩ := h; exact k)
theorem A_I1v {Q : aS → Prop} {a1 : Value} {b : Nat} (hX : AOk l G X cc own nm nL R) (hy : MkY y yc yL none 1) (hw : LkI own idx y) (d : decode cc pc = .ok (.invokespecial idx, 3)) (hM : ACt l G y yc yL none dd 0 0 [.ref b, a1] σ (vP Q)) (hlen : lv.length = nL) (hst : (st.map fun v => v.category).sum ≤ 8) (hfr : dd + 1 ≤ R.frames) (hlo : 8 + (yL + 11) + 36 * dd ≤ R.locals) (hc : cs ≤ R.cells) (hs : ss ≤ R.slots) (k : ∀ σ' : aS, Q σ' → AA G X cs ss (pc + 3) lv st σ') : AA G X cs ss pc lv (a1 :: .ref b :: st) σ :=
  A_callI (av := [a1]) hX hy hw d hM rfl hlen hst hfr hlo hc hs (fun _ σ' h => by obtain ⟨rfl, h⟩ := h; exact k σ' h)
theorem A_I2 {a1 a2 : Value} {b : Nat} (hX : AOk l G X cc own nm nL R) (hy : MkY y yc yL none 2) (hw : LkI own idx y) (d : decode cc pc = .ok (.invokespecial idx, 3)) (hM : ACt l G y yc yL none dd mc ms [.ref b, a1, a2] σ P) (hlen : lv.length = nL) (hst : (st.map fun v => v.category).sum ≤ 8) (hfr : dd + 1 ≤ R.frames) (hlo : 8 + (yL + 11) + 36 * dd ≤ R.locals) (hc : cs + mc ≤ R.cells) (hs : ss + ms ≤ R.slots) (k : ∀ (r : Option Value) (σ' : aS), P r σ' → AA G X (cs + mc) (ss + ms) (pc + 3) lv (r.toList ++ st) σ') : AA G X cs ss pc lv (a2 :: a1 :: .ref b :: st) σ :=
  A_callI (av := [a1, a2]) hX hy hw d hM rfl hlen hst hfr hlo hc hs k
theorem A_I2p {a1 a2 : Value} {b : Nat} (hX : AOk l G X cc own nm nL R) (hy : MkY y yc yL none 2) (hw : LkI own idx y) (d : decode cc pc = .ok (.invokespecial idx, 3)) (hM : ACt l G y yc yL none dd 0 0 [.ref b, a1, a2] σ (P)) (hlen : lv.length = nL) (hst : (st.map fun v => v.category).sum ≤ 8) (hfr : dd + 1 ≤ R.frames) (hlo : 8 + (yL + 11) + 36 * dd ≤ R.locals) (hc : cs ≤ R.cells) (hs : ss ≤ R.slots) (k : ∀ (r : Option Value) (σ' : aS), P r σ' → AA G X cs ss (pc + 3) lv (r.toList ++ st) σ') : AA G X cs ss pc lv (a2 :: a1 :: .ref b :: st) σ :=
  A_callI (av := [a1, a2]) hX hy hw d hM rfl hlen hst hfr hlo hc hs (k)
theorem A_I2e {σ1 : aS} {a1 a2 : Value} {b : Nat} (hX : AOk l G X cc own nm nL R) (hy : MkY y yc yL none 2) (hw : LkI own idx y) (d : decode cc pc = .ok (.invokespecial idx, 3)) (hM : ACt l G y yc yL none dd 0 0 [.ref b, a1, a2] σ (dP none σ1)) (hlen : lv.length = nL) (hst : (st.map fun v => v.category).sum ≤ 8) (hfr : dd + 1 ≤ R.frames) (hlo : 8 + (yL + 11) + 36 * dd ≤ R.locals) (hc : cs ≤ R.cells) (hs : ss ≤ R.slots) (k : AA G X cs ss (pc + 3) lv st σ1) : AA G X cs ss pc lv (a2 :: a1 :: .ref b :: st) σ :=
  A_callI (av := [a1, a2]) hX hy hw d hM rfl hlen hst hfr hlo hc hs (fun _ _ h => by obtain ⟨rfl, rfl⟩ := h; exact k)
theorem A_I2v {Q : aS → Prop} {a1 a2 : Value} {b : Nat} (hX : AOk l G X cc own nm nL R) (hy : MkY y yc yL none 2) (hw : LkI own idx y) (d : decode cc pc = .ok (.invokespecial idx, 3)) (hM : ACt l G y yc yL none dd 0 0 [.ref b, a1, a2] σ (vP Q)) (hlen : lv.length = nL) (hst : (st.map fun v => v.category).sum ≤ 8) (hfr : dd + 1 ≤ R.frames) (hlo : 8 + (yL + 11) + 36 * dd ≤ R.locals) (hc : cs ≤ R.cells) (hs : ss ≤ R.slots) (k : ∀ σ' : aS, Q σ' → AA G X cs ss (pc + 3) lv st σ') : AA G X cs ss pc lv (a2 :: a1 :: .ref b :: st) σ :=
  A_callI (av := [a1, a2]) hX hy hw d hM rfl hlen hst hfr hlo hc hs (fun _ σ' h => by obtain ⟨rfl, h⟩ := h; exact k σ' h)
theorem A_I3 {a1 a2 a3 : Value} {b : Nat} (hX : AOk l G X cc own nm nL R) (hy : MkY y yc yL none 3) (hw : LkI own idx y) (d : decode cc pc = .ok (.invokespecial idx, 3)) (hM : ACt l G y yc yL none dd mc ms [.ref b, a1, a2, a3] σ P) (hlen : lv.length = nL) (hst : (st.map fun v => v.category).sum ≤ 8) (hfr : dd + 1 ≤ R.frames) (hlo : 8 + (yL + 11) + 36 * dd ≤ R.locals) (hc : cs + mc ≤ R.cells) (hs : ss + ms ≤ R.slots) (k : ∀ (r : Option Value) (σ' : aS), P r σ' → AA G X (cs + mc) (ss + ms) (pc + 3) lv (r.toList ++ st) σ') : AA G X cs ss pc lv (a3 :: a2 :: a1 :: .ref b :: st) σ :=
  A_callI (av := [a1, a2, a3]) hX hy hw d hM rfl hlen hst hfr hlo hc hs k
theorem A_I3p {a1 a2 a3 : Value} {b : Nat} (hX : AOk l G X cc own nm nL R) (hy : MkY y yc yL none 3) (hw : LkI own idx y) (d : decode cc pc = .ok (.invokespecial idx, 3)) (hM : ACt l G y yc yL none dd 0 0 [.ref b, a1, a2, a3] σ (P)) (hlen : lv.length = nL) (hst : (st.map fun v => v.category).sum ≤ 8) (hfr : dd + 1 ≤ R.frames) (hlo : 8 + (yL + 11) + 36 * dd ≤ R.locals) (hc : cs ≤ R.cells) (hs : ss ≤ R.slots) (k : ∀ (r : Option Value) (σ' : aS), P r σ' → AA G X cs ss (pc + 3) lv (r.toList ++ st) σ') : AA G X cs ss pc lv (a3 :: a2 :: a1 :: .ref b :: st) σ :=
  A_callI (av := [a1, a2, a3]) hX hy hw d hM rfl hlen hst hfr hlo hc hs (k)
theorem A_I3e {σ1 : aS} {a1 a2 a3 : Value} {b : Nat} (hX : AOk l G X cc own nm nL R) (hy : MkY y yc yL none 3) (hw : LkI own idx y) (d : decode cc pc = .ok (.invokespecial idx, 3)) (hM : ACt l G y yc yL none dd 0 0 [.ref b, a1, a2, a3] σ (dP none σ1)) (hlen : lv.length = nL) (hst : (st.map fun v => v.category).sum ≤ 8) (hfr : dd + 1 ≤ R.frames) (hlo : 8 + (yL + 11) + 36 * dd ≤ R.locals) (hc : cs ≤ R.cells) (hs : ss ≤ R.slots) (k : AA G X cs ss (pc + 3) lv st σ1) : AA G X cs ss pc lv (a3 :: a2 :: a1 :: .ref b :: st) σ :=
  A_callI (av := [a1, a2, a3]) hX hy hw d hM rfl hlen hst hfr hlo hc hs (fun _ _ h => by obtain ⟨rfl, rfl⟩ := h; exact k)
theorem A_I3v {Q : aS → Prop} {a1 a2 a3 : Value} {b : Nat} (hX : AOk l G X cc own nm nL R) (hy : MkY y yc yL none 3) (hw : LkI own idx y) (d : decode cc pc = .ok (.invokespecial idx, 3)) (hM : ACt l G y yc yL none dd 0 0 [.ref b, a1, a2, a3] σ (vP Q)) (hlen : lv.length = nL) (hst : (st.map fun v => v.category).sum ≤ 8) (hfr : dd + 1 ≤ R.frames) (hlo : 8 + (yL + 11) + 36 * dd ≤ R.locals) (hc : cs ≤ R.cells) (hs : ss ≤ R.slots) (k : ∀ σ' : aS, Q σ' → AA G X cs ss (pc + 3) lv st σ') : AA G X cs ss pc lv (a3 :: a2 :: a1 :: .ref b :: st) σ :=
  A_callI (av := [a1, a2, a3]) hX hy hw d hM rfl hlen hst hfr hlo hc hs (fun _ σ' h => by obtain ⟨rfl, h⟩ := h; exact k σ' h)
theorem A_U0 {b : Nat} {ci : Nat} {fs : List Value} {x : MethodName} (hX : AOk l G X cc own nm nL R) (hy : MkY y yc yL ret 0) (hw : LkU own idx x y ci) (d : decode cc pc = .ok (.invokevirtual idx, 3)) (ho : σ.2 b = some (aO ci fs)) (hM : ACt l G y yc yL ret dd mc ms [.ref b] σ P) (hlen : lv.length = nL) (hst : (st.map fun v => v.category).sum ≤ 8) (hfr : dd + 1 ≤ R.frames) (hlo : 8 + (yL + 11) + 36 * dd ≤ R.locals) (hc : cs + mc ≤ R.cells) (hs : ss + ms ≤ R.slots) (k : ∀ (r : Option Value) (σ' : aS), P r σ' → AA G X (cs + mc) (ss + ms) (pc + 3) lv (r.toList ++ st) σ') : AA G X cs ss pc lv (.ref b :: st) σ :=
  A_callU (av := []) hX hy hw d ho hM rfl hlen hst hfr hlo hc hs k
theorem A_U0p {b : Nat} {ci : Nat} {fs : List Value} {x : MethodName} (hX : AOk l G X cc own nm nL R) (hy : MkY y yc yL ret 0) (hw : LkU own idx x y ci) (d : decode cc pc = .ok (.invokevirtual idx, 3)) (ho : σ.2 b = some (aO ci fs)) (hM : ACt l G y yc yL ret dd 0 0 [.ref b] σ (P)) (hlen : lv.length = nL) (hst : (st.map fun v => v.category).sum ≤ 8) (hfr : dd + 1 ≤ R.frames) (hlo : 8 + (yL + 11) + 36 * dd ≤ R.locals) (hc : cs ≤ R.cells) (hs : ss ≤ R.slots) (k : ∀ (r : Option Value) (σ' : aS), P r σ' → AA G X cs ss (pc + 3) lv (r.toList ++ st) σ') : AA G X cs ss pc lv (.ref b :: st) σ :=
  A_callU (av := []) hX hy hw d ho hM rfl hlen hst hfr hlo hc hs (k)
theorem A_U0d {w : Value} {σ1 : aS} {b : Nat} {ci : Nat} {fs : List Value} {x : MethodName} (hX : AOk l G X cc own nm nL R) (hy : MkY y yc yL ret 0) (hw : LkU own idx x y ci) (d : decode cc pc = .ok (.invokevirtual idx, 3)) (ho : σ.2 b = some (aO ci fs)) (hM : ACt l G y yc yL ret dd 0 0 [.ref b] σ (dP (some w) σ1)) (hlen : lv.length = nL) (hst : (st.map fun v => v.category).sum ≤ 8) (hfr : dd + 1 ≤ R.frames) (hlo : 8 + (yL + 11) + 36 * dd ≤ R.locals) (hc : cs ≤ R.cells) (hs : ss ≤ R.slots) (k : AA G X cs ss (pc + 3) lv (w :: st) σ1) : AA G X cs ss pc lv (.ref b :: st) σ :=
  A_callU (av := []) hX hy hw d ho hM rfl hlen hst hfr hlo hc hs (fun _ _ h => by obtain ⟨rfl, rfl⟩ := h; exact k)
theorem A_U0e {σ1 : aS} {b : Nat} {ci : Nat} {fs : List Value} {x : MethodName} (hX : AOk l G X cc own nm nL R) (hy : MkY y yc yL ret 0) (hw : LkU own idx x y ci) (d : decode cc pc = .ok (.invokevirtual idx, 3)) (ho : σ.2 b = some (aO ci fs)) (hM : ACt l G y yc yL ret dd 0 0 [.ref b] σ (dP none σ1)) (hlen : lv.length = nL) (hst : (st.map fun v => v.category).sum ≤ 8) (hfr : dd + 1 ≤ R.frames) (hlo : 8 + (yL + 11) + 36 * dd ≤ R.locals) (hc : cs ≤ R.cells) (hs : ss ≤ R.slots) (k : AA G X cs ss (pc + 3) lv st σ1) : AA G X cs ss pc lv (.ref b :: st) σ :=
  A_callU (av := []) hX hy hw d ho hM rfl hlen hst hfr hlo hc hs (fun _ _ h => by obtain ⟨rfl, rfl⟩ := h; exact k)
theorem A_U0i {Q : Int32 → aS → Prop} {b : Nat} {ci : Nat} {fs : List Value} {x : MethodName} (hX : AOk l G X cc own nm nL R) (hy : MkY y yc yL ret 0) (hw : LkU own idx x y ci) (d : decode cc pc = .ok (.invokevirtual idx, 3)) (ho : σ.2 b = some (aO ci fs)) (hM : ACt l G y yc yL ret dd 0 0 [.ref b] σ (iP Q)) (hlen : lv.length = nL) (hst : (st.map fun v => v.category).sum ≤ 8) (hfr : dd + 1 ≤ R.frames) (hlo : 8 + (yL + 11) + 36 * dd ≤ R.locals) (hc : cs ≤ R.cells) (hs : ss ≤ R.slots) (k : ∀ (x : Int32) (σ' : aS), Q x σ' → AA G X cs ss (pc + 3) lv (.int x :: st) σ') : AA G X cs ss pc lv (.ref b :: st) σ :=
  A_callU (av := []) hX hy hw d ho hM rfl hlen hst hfr hlo hc hs (fun _ σ' h => by obtain ⟨x, rfl, h⟩ := h; exact k x σ' h)
theorem A_U0j {Q : Int64 → aS → Prop} {b : Nat} {ci : Nat} {fs : List Value} {x : MethodName} (hX : AOk l G X cc own nm nL R) (hy : MkY y yc yL ret 0) (hw : LkU own idx x y ci) (d : decode cc pc = .ok (.invokevirtual idx, 3)) (ho : σ.2 b = some (aO ci fs)) (hM : ACt l G y yc yL ret dd 0 0 [.ref b] σ (jP Q)) (hlen : lv.length = nL) (hst : (st.map fun v => v.category).sum ≤ 8) (hfr : dd + 1 ≤ R.frames) (hlo : 8 + (yL + 11) + 36 * dd ≤ R.locals) (hc : cs ≤ R.cells) (hs : ss ≤ R.slots) (k : ∀ (x : Int64) (σ' : aS), Q x σ' → AA G X cs ss (pc + 3) lv (.long x :: st) σ') : AA G X cs ss pc lv (.ref b :: st) σ :=
  A_callU (av := []) hX hy hw d ho hM rfl hlen hst hfr hlo hc hs (fun _ σ' h => by obtain ⟨x, rfl, h⟩ := h; exact k x σ' h)
theorem A_U0v {Q : aS → Prop} {b : Nat} {ci : Nat} {fs : List Value} {x : MethodName} (hX : AOk l G X cc own nm nL R) (hy : MkY y yc yL ret 0) (hw : LkU own idx x y ci) (d : decode cc pc = .ok (.invokevirtual idx, 3)) (ho : σ.2 b = some (aO ci fs)) (hM : ACt l G y yc yL ret dd 0 0 [.ref b] σ (vP Q)) (hlen : lv.length = nL) (hst : (st.map fun v => v.category).sum ≤ 8) (hfr : dd + 1 ≤ R.frames) (hlo : 8 + (yL + 11) + 36 * dd ≤ R.locals) (hc : cs ≤ R.cells) (hs : ss ≤ R.slots) (k : ∀ σ' : aS, Q σ' → AA G X cs ss (pc + 3) lv st σ') : AA G X cs ss pc lv (.ref b :: st) σ :=
  A_callU (av := []) hX hy hw d ho hM rfl hlen hst hfr hlo hc hs (fun _ σ' h => by obtain ⟨rfl, h⟩ := h; exact k σ' h)
theorem A_U1 {a1 : Value} {b : Nat} {ci : Nat} {fs : List Value} {x : MethodName} (hX : AOk l G X cc own nm nL R) (hy : MkY y yc yL ret 1) (hw : LkU own idx x y ci) (d : decode cc pc = .ok (.invokevirtual idx, 3)) (ho : σ.2 b = some (aO ci fs)) (hM : ACt l G y yc yL ret dd mc ms [.ref b, a1] σ P) (hlen : lv.length = nL) (hst : (st.map fun v => v.category).sum ≤ 8) (hfr : dd + 1 ≤ R.frames) (hlo : 8 + (yL + 11) + 36 * dd ≤ R.locals) (hc : cs + mc ≤ R.cells) (hs : ss + ms ≤ R.slots) (k : ∀ (r : Option Value) (σ' : aS), P r σ' → AA G X (cs + mc) (ss + ms) (pc + 3) lv (r.toList ++ st) σ') : AA G X cs ss pc lv (a1 :: .ref b :: st) σ :=
  A_callU (av := [a1]) hX hy hw d ho hM rfl hlen hst hfr hlo hc hs k
theorem A_U1p {a1 : Value} {b : Nat} {ci : Nat} {fs : List Value} {x : MethodName} (hX : AOk l G X cc own nm nL R) (hy : MkY y yc yL ret 1) (hw : LkU own idx x y ci) (d : decode cc pc = .ok (.invokevirtual idx, 3)) (ho : σ.2 b = some (aO ci fs)) (hM : ACt l G y yc yL ret dd 0 0 [.ref b, a1] σ (P)) (hlen : lv.length = nL) (hst : (st.map fun v => v.category).sum ≤ 8) (hfr : dd + 1 ≤ R.frames) (hlo : 8 + (yL + 11) + 36 * dd ≤ R.locals) (hc : cs ≤ R.cells) (hs : ss ≤ R.slots) (k : ∀ (r : Option Value) (σ' : aS), P r σ' → AA G X cs ss (pc + 3) lv (r.toList ++ st) σ') : AA G X cs ss pc lv (a1 :: .ref b :: st) σ :=
  A_callU (av := [a1]) hX hy hw d ho hM rfl hlen hst hfr hlo hc hs (k)
theorem A_U1d {w : Value} {σ1 : aS} {a1 : Value} {b : Nat} {ci : Nat} {fs : List Value} {x : MethodName} (hX : AOk l G X cc own nm nL R) (hy : MkY y yc yL ret 1) (hw : LkU own idx x y ci) (d : decode cc pc = .ok (.invokevirtual idx, 3)) (ho : σ.2 b = some (aO ci fs)) (hM : ACt l G y yc yL ret dd 0 0 [.ref b, a1] σ (dP (some w) σ1)) (hlen : lv.length = nL) (hst : (st.map fun v => v.category).sum ≤ 8) (hfr : dd + 1 ≤ R.frames) (hlo : 8 + (yL + 11) + 36 * dd ≤ R.locals) (hc : cs ≤ R.cells) (hs : ss ≤ R.slots) (k : AA G X cs ss (pc + 3) lv (w :: st) σ1) : AA G X cs ss pc lv (a1 :: .ref b :: st) σ :=
  A_callU (av := [a1]) hX hy hw d ho hM rfl hlen hst hfr hlo hc hs (fun _ _ h => by obtain ⟨rfl, rfl⟩ := h; exact k)
theorem A_U1e {σ1 : aS} {a1 : Value} {b : Nat} {ci : Nat} {fs : List Value} {x : MethodName} (hX : AOk l G X cc own nm nL R) (hy : MkY y yc yL ret 1) (hw : LkU own idx x y ci) (d : decode cc pc = .ok (.invokevirtual idx, 3)) (ho : σ.2 b = some (aO ci fs)) (hM : ACt l G y yc yL ret dd 0 0 [.ref b, a1] σ (dP none σ1)) (hlen : lv.length = nL) (hst : (st.map fun v => v.category).sum ≤ 8) (hfr : dd + 1 ≤ R.frames) (hlo : 8 + (yL + 11) + 36 * dd ≤ R.locals) (hc : cs ≤ R.cells) (hs : ss ≤ R.slots) (k : AA G X cs ss (pc + 3) lv st σ1) : AA G X cs ss pc lv (a1 :: .ref b :: st) σ :=
  A_callU (av := [a1]) hX hy hw d ho hM rfl hlen hst hfr hlo hc hs (fun _ _ h => by obtain ⟨rfl, rfl⟩ := h; exact k)
theorem A_U1i {Q : Int32 → aS → Prop} {a1 : Value} {b : Nat} {ci : Nat} {fs : List Value} {x : MethodName} (hX : AOk l G X cc own nm nL R) (hy : MkY y yc yL ret 1) (hw : LkU own idx x y ci) (d : decode cc pc = .ok (.invokevirtual idx, 3)) (ho : σ.2 b = some (aO ci fs)) (hM : ACt l G y yc yL ret dd 0 0 [.ref b, a1] σ (iP Q)) (hlen : lv.length = nL) (hst : (st.map fun v => v.category).sum ≤ 8) (hfr : dd + 1 ≤ R.frames) (hlo : 8 + (yL + 11) + 36 * dd ≤ R.locals) (hc : cs ≤ R.cells) (hs : ss ≤ R.slots) (k : ∀ (x : Int32) (σ' : aS), Q x σ' → AA G X cs ss (pc + 3) lv (.int x :: st) σ') : AA G X cs ss pc lv (a1 :: .ref b :: st) σ :=
  A_callU (av := [a1]) hX hy hw d ho hM rfl hlen hst hfr hlo hc hs (fun _ σ' h => by obtain ⟨x, rfl, h⟩ := h; exact k x σ' h)
theorem A_U1j {Q : Int64 → aS → Prop} {a1 : Value} {b : Nat} {ci : Nat} {fs : List Value} {x : MethodName} (hX : AOk l G X cc own nm nL R) (hy : MkY y yc yL ret 1) (hw : LkU own idx x y ci) (d : decode cc pc = .ok (.invokevirtual idx, 3)) (ho : σ.2 b = some (aO ci fs)) (hM : ACt l G y yc yL ret dd 0 0 [.ref b, a1] σ (jP Q)) (hlen : lv.length = nL) (hst : (st.map fun v => v.category).sum ≤ 8) (hfr : dd + 1 ≤ R.frames) (hlo : 8 + (yL + 11) + 36 * dd ≤ R.locals) (hc : cs ≤ R.cells) (hs : ss ≤ R.slots) (k : ∀ (x : Int64) (σ' : aS), Q x σ' → AA G X cs ss (pc + 3) lv (.long x :: st) σ') : AA G X cs ss pc lv (a1 :: .ref b :: st) σ :=
  A_callU (av := [a1]) hX hy hw d ho hM rfl hlen hst hfr hlo hc hs (fun _ σ' h => by obtain ⟨x, rfl, h⟩ := h; exact k x σ' h)
theorem A_U1v {Q : aS → Prop} {a1 : Value} {b : Nat} {ci : Nat} {fs : List Value} {x : MethodName} (hX : AOk l G X cc own nm nL R) (hy : MkY y yc yL ret 1) (hw : LkU own idx x y ci) (d : decode cc pc = .ok (.invokevirtual idx, 3)) (ho : σ.2 b = some (aO ci fs)) (hM : ACt l G y yc yL ret dd 0 0 [.ref b, a1] σ (vP Q)) (hlen : lv.length = nL) (hst : (st.map fun v => v.category).sum ≤ 8) (hfr : dd + 1 ≤ R.frames) (hlo : 8 + (yL + 11) + 36 * dd ≤ R.locals) (hc : cs ≤ R.cells) (hs : ss ≤ R.slots) (k : ∀ σ' : aS, Q σ' → AA G X cs ss (pc + 3) lv st σ') : AA G X cs ss pc lv (a1 :: .ref b :: st) σ :=
  A_callU (av := [a1]) hX hy hw d ho hM rfl hlen hst hfr hlo hc hs (fun _ σ' h => by obtain ⟨rfl, h⟩ := h; exact k σ' h)
theorem nf_0 : ∀ C T, vwCl[0]? = some (C, T, 3) → ∀ j, j < 3 → (parseFieldDescriptor (T j).2.2.1).map defaultValue = some (vp_V [.int 0, .int 0, .int 0] j) := by
  intro C T h
  cases h
  decide +kernel
theorem nf_1 : ∀ C T, vwCl[1]? = some (C, T, 3) → ∀ j, j < 3 → (parseFieldDescriptor (T j).2.2.1).map defaultValue = some (vp_V [.int 0, .int 0, .int 0] j) := by
  intro C T h
  cases h
  decide +kernel
theorem nf_2 : ∀ C T, vwCl[2]? = some (C, T, 2) → ∀ j, j < 2 → (parseFieldDescriptor (T j).2.2.1).map defaultValue = some (vp_V [.null, .int 0] j) := by
  intro C T h
  cases h
  decide +kernel
theorem nf_3 : ∀ C T, vwCl[3]? = some (C, T, 5) → ∀ j, j < 5 → (parseFieldDescriptor (T j).2.2.1).map defaultValue = some (vp_V [.null, .null, .null, .null, .null] j) := by
  intro C T h
  cases h
  decide +kernel
theorem nf_4 : ∀ C T, vwCl[4]? = some (C, T, 3) → ∀ j, j < 3 → (parseFieldDescriptor (T j).2.2.1).map defaultValue = some (vp_V [.int 0, .int 0, .int 0] j) := by
  intro C T h
  cases h
  decide +kernel
theorem nf_5 : ∀ C T, vwCl[5]? = some (C, T, 4) → ∀ j, j < 4 → (parseFieldDescriptor (T j).2.2.1).map defaultValue = some (vp_V [.null, .null, .null, .int 0] j) := by
  intro C T h
  cases h
  decide +kernel
theorem nf_6 : ∀ C T, vwCl[6]? = some (C, T, 3) → ∀ j, j < 3 → (parseFieldDescriptor (T j).2.2.1).map defaultValue = some (vp_V [.int 0, .int 0, .int 0] j) := by
  intro C T h
  cases h
  decide +kernel
theorem nf_7 : ∀ C T, vwCl[7]? = some (C, T, 8) → ∀ j, j < 8 → (parseFieldDescriptor (T j).2.2.1).map defaultValue = some (vp_V [.null, .null, .null, .null, .int 0, .int 0, .null, .int 0] j) := by
  intro C T h
  cases h
  decide +kernel
theorem nf_8 : ∀ C T, vwCl[8]? = some (C, T, 5) → ∀ j, j < 5 → (parseFieldDescriptor (T j).2.2.1).map defaultValue = some (vp_V [.null, .null, .null, .null, .int 0] j) := by
  intro C T h
  cases h
  decide +kernel
theorem nf_9 : ∀ C T, vwCl[9]? = some (C, T, 3) → ∀ j, j < 3 → (parseFieldDescriptor (T j).2.2.1).map defaultValue = some (vp_V [.int 0, .int 0, .int 0] j) := by
  intro C T h
  cases h
  decide +kernel
theorem nf_10 : ∀ C T, vwCl[10]? = some (C, T, 9) → ∀ j, j < 9 → (parseFieldDescriptor (T j).2.2.1).map defaultValue = some (vp_V [.null, .int 0, .null, .null, .null, .null, .null, .int 0, .int 0] j) := by
  intro C T h
  cases h
  decide +kernel
theorem nf_11 : ∀ C T, vwCl[11]? = some (C, T, 11) → ∀ j, j < 11 → (parseFieldDescriptor (T j).2.2.1).map defaultValue = some (vp_V [.null, .null, .null, .null, .null, .null, .null, .null, .int 0, .int 0, .int 0] j) := by
  intro C T h
  cases h
  decide +kernel
theorem nf_12 : ∀ C T, vwCl[12]? = some (C, T, 37) → ∀ j, j < 37 → (parseFieldDescriptor (T j).2.2.1).map defaultValue = some (vp_V [.int 0, .int 0, .null, .null, .null, .null, .int 0, .null, .null, .null, .null, .int 0, .int 0, .int 0, .null, .int 0, .int 0, .int 0, .null, .null, .null, .null, .null, .null, .null, .null, .long 0, .null, .int 0, .int 0, .int 0, .int 0, .null, .null, .null, .null, .long 0] j) := by
  intro C T h
  cases h
  decide +kernel
/-- nothing outside lo .. hi has changed -/
def Fr (lo hi : Nat) (σ σ' : aS) : Prop := σ'.1 = σ.1 ∧ ∀ a, a < lo ∨ hi ≤ a → σ'.2 a = σ.2 a
theorem Fr.rf {lo hi : Nat} {σ : aS} : Fr lo hi σ σ := ⟨rfl, fun _ _ => rfl⟩
theorem Fr.tr {lo hi : Nat} {σ σ1 σ2 : aS} (h1 : Fr lo hi σ σ1) (h2 : Fr lo hi σ1 σ2) : Fr lo hi σ σ2 := ⟨h2.1.trans h1.1, fun a ha => (h2.2 a ha).trans (h1.2 a ha)⟩
theorem Fr.wd {lo hi lo' hi' : Nat} {σ σ' : aS} (h : Fr lo hi σ σ') (h1 : lo' ≤ lo) (h2 : hi ≤ hi') : Fr lo' hi' σ σ' := ⟨h.1, fun a ha => h.2 a (by omega)⟩
theorem Fr.set {lo hi a : Nat} {e : va_E} {σ σ' : aS} (h : Fr lo hi σ σ') (h1 : lo ≤ a) (h2 : a < hi) : Fr lo hi σ (aSet σ' a e) := ⟨h.1, fun b hb => (aSet_n (by omega)).trans (h.2 b hb)⟩
theorem lk_f {lo hi b : Nat} {σ σ' : aS} {r : Option va_E} (hf : Fr lo hi σ σ') (h : σ.2 b = r) (hb : b < lo ∨ hi ≤ b) : σ'.2 b = r := (hf.2 b hb).trans h
theorem lk_n {σ : aS} {a b : Nat} {e : va_E} {r : Option va_E} (h : σ.2 b = r) (hne : b ≠ a) : (aSet σ a e).2 b = r := (aSet_n hne).trans h
theorem lk_w {σ : aS} {b : Nat} {e : va_E} {r : Option va_E} (h : σ.2 b = r) (hne : b ≠ σ.1) : (aNew σ e).2 b = r := (aNew_n hne).trans h
theorem A_dom (k : (∀ (a : Nat) (e : va_E), σ.2 a = some e → G.2.1 ≤ a ∧ a < σ.1) → AA G X cs ss pc lv st σ) : AA G X cs ss pc lv st σ := by
  obtain ⟨p, l', e, R', s, m, args, below, meth, c, Q⟩ := X
  intro H locs ls hH hS hL
  exact k (fun a e h => ⟨(hH.2 a e h).1, by have := (hH.2 a e h).2.lt; rw [hH.1] at this; exact this⟩) H locs ls hH hS hL
theorem A_name {x : Int32} (k : ∀ y : Int32, y = x → AA G X cs ss pc lv (.int y :: st) σ) : AA G X cs ss pc lv (.int x :: st) σ := k x rfl
theorem A_top {x y : Int32} (h : x = y) (k : AA G X cs ss pc lv (.int y :: st) σ) : AA G X cs ss pc lv (.int x :: st) σ := h ▸ k
theorem A_gen (P : aS → Prop) (h : P σ) (k : ∀ σ' : aS, P σ' → AA G X cs ss pc lv st σ') : AA G X cs ss pc lv st σ := k σ h
theorem aNew_s' {σ : aS} {b : Nat} {e : va_E} (h : b = σ.1) : (aNew σ e).2 b = some e := by subst h; exact aNew_s
theorem A_cs {cs' ss' : Nat} (h1 : cs = cs') (h2 : ss = ss') (k : AA G X cs' ss' pc lv st σ) : AA G X cs ss pc lv st σ := by subst h1; subst h2; exact k
theorem A_eq {pc' : Nat} {lv' : List (Option Value)} {st' : List Value} {σ' : aS} (k : AA G X cs ss pc' lv' st' σ') (h1 : pc = pc') (h2 : lv = lv') (h3 : st = st') (h4 : σ = σ') : AA G X cs ss pc lv st σ := by subst h1; subst h2; subst h3; subst h4; exact k
end rows
end
section
/-! rows read and written through at and put; fill; traits; what a borrower makes of a state -/
def atS (n : Nat) (f : Nat → Int32) (p : Int32) : Int32 := if 0 ≤ p ∧ p < nI n then f p.toNatClampNeg else 0
def putS (n : Nat) (f : Nat → Int32) (p v : Int32) : Nat → Int32 := if 0 ≤ p ∧ p < nI n then upd f p.toNatClampNeg v else f
theorem i_in {p : Int32} {n : Nat} (hn : n < 2 ^ 31) (h0 : ¬ p < 0) (h1 : ¬ nI n ≤ p) : vp_in p n := by
  rw [vp_in_iff]
  rw [Int32.lt_iff_toInt_lt, Int32.toInt_zero] at h0
  rw [Int32.le_iff_toInt_le, nI_toInt hn] at h1
  omega
theorem i_nlt {x y : Int32} : ¬ x < y ↔ y ≤ x := by
  rw [Int32.lt_iff_toInt_lt, Int32.le_iff_toInt_le]
  omega
theorem i_nle {x y : Int32} : ¬ x ≤ y ↔ y < x := by
  rw [Int32.lt_iff_toInt_lt, Int32.le_iff_toInt_le]
  omega
theorem atS_nI {n j : Nat} {f : Nat → Int32} (hj : j < n) (hn : n < 2 ^ 31) : atS n f (nI j) = f j := by
  rw [atS, if_pos ⟨nI_pos' (by omega), nI_lt hj hn⟩, nI_clamp (by omega)]
theorem putS_nI {n j : Nat} {f : Nat → Int32} {v : Int32} (hj : j < n) (hn : n < 2 ^ 31) : putS n f (nI j) v = upd f j v := by
  rw [putS, if_pos ⟨nI_pos' (by omega), nI_lt hj hn⟩, nI_clamp (by omega)]
theorem atS_no {n : Nat} {f : Nat → Int32} {p : Int32} (h : p < 0 ∨ nI n ≤ p) : atS n f p = 0 := by
  rw [atS, if_neg]
  rintro ⟨h1, h2⟩
  rcases h with h | h
  · exact i_nlt.mpr h1 h
  · exact i_nle.mpr h2 h
theorem putS_no {n : Nat} {f : Nat → Int32} {p v : Int32} (h : p < 0 ∨ nI n ≤ p) : putS n f p v = f := by
  rw [putS, if_neg]
  rintro ⟨h1, h2⟩
  rcases h with h | h
  · exact i_nlt.mpr h1 h
  · exact i_nle.mpr h2 h
set_option maxRecDepth 100000 in
set_option maxHeartbeats 1000000 in
theorem ct_at (l : Launch) (G : aG) {k n : Nat} {f : Nat → Int32} {p : Int32} {σ : aS} (h : σ.2 k = some (aI G n f)) (hn : n < 2 ^ 31) : ACt l G yX11_at cX11_at 2 (some .int) 0 0 0 [.ref k, .int p] σ (dP (some (.int (atS n f p))) σ) := by
  refine ACt.intro (own := RX11) (nm := "at") mk_X11_at rfl rfl [some (.ref k), some (.int p)] rfl (Nat.le_of_ble_eq_true rfl) (fun X hX hR => ?_)
  refine A_iload_n (pc := 0) rfl hX dX11_at_0 ?_
  refine A_if_lt (pc := 1) 16 hX dX11_at_1 rfl (fun c1 => ?_) (fun c1 => ?_)
  · refine A_iconst (pc := 16) (v := (nI 0)) (by decide) hX dX11_at_16 ?_
    refine A_iret (pc := 17) hX hR dX11_at_17 rfl rfl ?_
    exact ⟨by rw [atS_no (.inl c1)]; rfl, rfl⟩
  · refine A_iload_n (pc := 4) rfl hX dX11_at_4 ?_
    refine A_aload_n (pc := 5) rfl hX dX11_at_5 ?_
    refine A_alenI (pc := 6) hX dX11_at_6 (by repeat (first | assumption | exact aSet_s | exact aNew_s | refine lk_n ?_ (by omega) | refine lk_f (by assumption) ?_ (by omega) | refine lk_w ?_ (by omega))) ?_
    refine A_icmp_ge (pc := 7) 16 hX dX11_at_7 rfl (fun c7 => ?_) (fun c7 => ?_)
    · refine A_iconst (pc := 16) (v := (nI 0)) (by decide) hX dX11_at_16 ?_
      refine A_iret (pc := 17) hX hR dX11_at_17 rfl rfl ?_
      exact ⟨by rw [atS_no (.inr c7)]; rfl, rfl⟩
    · refine A_aload_n (pc := 10) rfl hX dX11_at_10 ?_
      refine A_iload_n (pc := 11) rfl hX dX11_at_11 ?_
      refine A_iald (pc := 12) hX dX11_at_12 (by repeat (first | assumption | exact aSet_s | exact aNew_s | refine lk_n ?_ (by omega) | refine lk_f (by assumption) ?_ (by omega) | refine lk_w ?_ (by omega))) (i_in hn c1 c7) ?_
      refine A_goto (pc := 13) 17 hX dX11_at_13 rfl ?_
      refine A_iret (pc := 17) hX hR dX11_at_17 rfl rfl ?_
      exact ⟨by rw [atS, if_pos ⟨i_nlt.mp c1, i_nle.mp c7⟩], rfl⟩
set_option maxRecDepth 100000 in
set_option maxHeartbeats 1000000 in
theorem ct_put (l : Launch) (G : aG) {k n : Nat} {f : Nat → Int32} {p v : Int32} {σ : aS} (h : σ.2 k = some (aI G n f)) (hn : n < 2 ^ 31) : ACt l G yX11_put cX11_put 3 (none) 0 0 0 [.ref k, .int p, .int v] σ (vP (fun σ' => σ'.2 k = some (aI G n (putS n f p v)) ∧ Fr k (k + 1) σ σ')) := by
  refine ACt.intro (own := RX11) (nm := "put") mk_X11_put rfl rfl [some (.ref k), some (.int p), some (.int v)] rfl (Nat.le_of_ble_eq_true rfl) (fun X hX hR => ?_)
  refine A_iload_n (pc := 0) rfl hX dX11_put_0 ?_
  refine A_if_lt (pc := 1) 14 hX dX11_put_1 rfl (fun c1 => ?_) (fun c1 => ?_)
  · refine A_ret (pc := 14) hX hR dX11_put_14 ?_
    exact ⟨rfl, by rw [putS_no (.inl c1)]; exact h, Fr.rf⟩
  · refine A_iload_n (pc := 4) rfl hX dX11_put_4 ?_
    refine A_aload_n (pc := 5) rfl hX dX11_put_5 ?_
    refine A_alenI (pc := 6) hX dX11_put_6 (by repeat (first | assumption | exact aSet_s | exact aNew_s | refine lk_n ?_ (by omega) | refine lk_f (by assumption) ?_ (by omega) | refine lk_w ?_ (by omega))) ?_
    refine A_icmp_ge (pc := 7) 14 hX dX11_put_7 rfl (fun c7 => ?_) (fun c7 => ?_)
    · refine A_ret (pc := 14) hX hR dX11_put_14 ?_
      exact ⟨rfl, by rw [putS_no (.inr c7)]; exact h, Fr.rf⟩
    · refine A_aload_n (pc := 10) rfl hX dX11_put_10 ?_
      refine A_iload_n (pc := 11) rfl hX dX11_put_11 ?_
      refine A_iload_n (pc := 12) rfl hX dX11_put_12 ?_
      refine A_iast (pc := 13) hX dX11_put_13 (by repeat (first | assumption | exact aSet_s | exact aNew_s | refine lk_n ?_ (by omega) | refine lk_f (by assumption) ?_ (by omega) | refine lk_w ?_ (by omega))) (i_in hn c1 c7) ?_
      refine A_ret (pc := 14) hX hR dX11_put_14 ?_
      exact ⟨rfl, by rw [putS, if_pos ⟨i_nlt.mp c1, i_nle.mp c7⟩]; exact aSet_s, Fr.rf.set (Nat.le_refl _) (Nat.lt_succ_self _)⟩
set_option maxRecDepth 100000 in
set_option maxHeartbeats 1000000 in
theorem ct_fill (l : Launch) (G : aG) {k n : Nat} {f : Nat → Int32} {v : Int32} {σ : aS} (h : σ.2 k = some (aI G n f)) (hn : n < 2 ^ 31) : ACt l G yX11_fill cX11_fill 3 (none) 0 0 0 [.ref k, .int v] σ (vP (fun σ' => σ'.2 k = some (aI G n (fun j => if j < n then v else f j)) ∧ Fr k (k + 1) σ σ')) := by
  refine ACt.intro (own := RX11) (nm := "fill") mk_X11_fill rfl rfl [some (.ref k), some (.int v), none] rfl (Nat.le_of_ble_eq_true rfl) (fun X hX hR => ?_)
  refine A_iconst (pc := 0) (v := (nI 0)) (by decide) hX dX11_fill_0 ?_
  refine A_istore_n (pc := 1) (lv' := [_, _, _]) hX dX11_fill_1 (Nat.le_of_ble_eq_true rfl) rfl rfl ?_
  suffices hl : ∀ (m i : Nat) (σ1 : aS), i ≤ n → n - i < m → σ1.2 k = some (aI G n (fun j => if j < i then v else f j)) → Fr k (k + 1) σ σ1 → AA G X 0 0 2 [some (.ref k), some (.int v), some (.int (nI i))] [] σ1 from hl (n + 1) 0 σ (Nat.zero_le _) (by omega) (by simpa using h) Fr.rf
  intro m
  induction m with
  | zero => intro i σ1 _ hm; exact absurd hm (by omega)
  | succ m ih =>
    intro i σ1 hi hm h1 hf
    refine A_iload_n (pc := 2) rfl hX dX11_fill_2 ?_
    refine A_aload_n (pc := 3) rfl hX dX11_fill_3 ?_
    refine A_alenI (pc := 4) hX dX11_fill_4 (by assumption) ?_
    refine A_icmp_ge (pc := 5) 18 hX dX11_fill_5 rfl (fun c5 => ?_) (fun c5 => ?_)
    · refine A_ret (pc := 18) hX hR dX11_fill_18 ?_
      have hin : i = n := by
        rw [nI_leI (by omega) (by omega)] at c5
        omega
      subst hin
      exact ⟨rfl, h1, hf⟩
    · have hlt : i < n := by
        rcases Nat.lt_or_ge i n with q | q
        · exact q
        · exact absurd (nI_le q (by omega)) c5
      refine A_aload_n (pc := 8) rfl hX dX11_fill_8 ?_
      refine A_iload_n (pc := 9) rfl hX dX11_fill_9 ?_
      refine A_iload_n (pc := 10) rfl hX dX11_fill_10 ?_
      refine A_iast (pc := 11) hX dX11_fill_11 (by repeat (first | assumption | exact aSet_s | exact aNew_s | refine lk_n ?_ (by omega) | refine lk_f (by assumption) ?_ (by omega) | refine lk_w ?_ (by omega))) (vp_in_nI hlt hn) ?_
      refine A_iinc (pc := 12) (v := (nI (i + 1))) (lv' := [_, _, _]) hX dX11_fill_12 rfl (nI_succ i).symm rfl rfl ?_
      refine A_goto (pc := 15) 2 hX dX11_fill_15 rfl ?_
      refine ih (i + 1) _ hlt (by omega) (aSet_s.trans ?_) (hf.set (Nat.le_refl _) (Nat.lt_succ_self _))
      rw [nI_clamp (by omega)]
      congr 2
      funext j
      by_cases hj : j = i
      · subst hj; simp [upd]
      · by_cases hj2 : j < i
        · simp [upd, hj, hj2, Nat.lt_succ_of_lt hj2]
        · simp [upd, hj, hj2, show ¬ j < i + 1 by omega]
end
section
/-! traits of a state; what a borrower of a kind, a trait, a much makes of a state -/
def trt (s t : Nat) : Nat := s / 8 ^ t % 8
def setT (s t v : Nat) : Nat := s - trt s t * 8 ^ t + v * 8 ^ t
def mk (k t m s : Nat) : Nat := match k with
  | 0 => setT s t ((trt s t + m) % 8)
  | 1 => setT s t m
  | 2 => setT s t (7 - trt s t)
  | 3 => setT (setT s t (trt s ((t + 1) % 3))) ((t + 1) % 3) (trt s t)
  | _ => setT s t (2 * trt s t % 8)
theorem t_lt3 {t : Nat} (h : t < 3) : t = 0 ∨ t = 1 ∨ t = 2 := by omega
theorem trt_lt (s t : Nat) : trt s t < 8 := Nat.mod_lt _ (by decide)
theorem trt_le {s t : Nat} (ht : t < 3) : trt s t * 8 ^ t ≤ s := by
  rcases t_lt3 ht with rfl | rfl | rfl <;> simp only [trt] <;> omega
theorem setT_lt {s t v : Nat} (hs : s < 512) (ht : t < 3) (hv : v < 8) : setT s t v < 512 := by
  rcases t_lt3 ht with rfl | rfl | rfl <;> simp only [setT, trt] <;> omega
theorem trt_setT {s t v : Nat} (hs : s < 512) (ht : t < 3) (hv : v < 8) : trt (setT s t v) t = v := by
  rcases t_lt3 ht with rfl | rfl | rfl <;> simp only [setT, trt] <;> omega
theorem trt_setT_ne {s t u v : Nat} (hs : s < 512) (ht : t < 3) (hu : u < 3) (hne : u ≠ t) (hv : v < 8) : trt (setT s t v) u = trt s u := by
  rcases t_lt3 ht with rfl | rfl | rfl <;> rcases t_lt3 hu with rfl | rfl | rfl <;> simp only [setT, trt] <;> omega
theorem mk_lt {k t m s : Nat} (hs : s < 512) (ht : t < 3) (hm : m < 8) : mk k t m s < 512 := by
  have h1 := trt_lt s t
  have h2 := trt_lt s ((t + 1) % 3)
  have ht1 : (t + 1) % 3 < 3 := Nat.mod_lt _ (by decide)
  unfold mk
  split
  · exact setT_lt hs ht (Nat.mod_lt _ (by decide))
  · exact setT_lt hs ht hm
  · exact setT_lt hs ht (by omega)
  · exact setT_lt (setT_lt hs ht h2) ht1 h1
  · exact setT_lt hs ht (Nat.mod_lt _ (by decide))
theorem i_and7 {x : Nat} (h : x < 16) : nI x &&& nI 7 = nI (x % 8) := (by decide +kernel : ∀ x, x < 16 → nI x &&& nI 7 = nI (x % 8)) x h
theorem i_tr {s t : Nat} (hs : s < 512) (ht : t < 3) : (nI s >>> ((nI 3 * nI t) &&& 31)) &&& nI 7 = nI (trt s t) := (by decide +kernel : ∀ s, s < 512 → ∀ t, t < 3 → (nI s >>> ((nI 3 * nI t) &&& 31)) &&& nI 7 = nI (trt s t)) s hs t ht
theorem i_dif {t v w : Nat} (ht : t < 3) (hv : v < 8) (hw : w < 8) : (nI v - nI w) <<< ((nI 3 * nI t) &&& 31) = nI (v * 8 ^ t) - nI (w * 8 ^ t) := (by decide +kernel : ∀ t, t < 3 → ∀ v, v < 8 → ∀ w, w < 8 → (nI v - nI w) <<< ((nI 3 * nI t) &&& 31) = nI (v * 8 ^ t) - nI (w * 8 ^ t)) t ht v hv w hw
theorem i_addsub {a b c : Nat} (h : c ≤ a) : nI a + (nI b - nI c) = nI (a - c + b) := by
  rw [← nI_add (a - c) b, ← pk_sub h, Int32.sub_eq_add_neg, Int32.sub_eq_add_neg, Int32.add_comm (nI b), ← Int32.add_assoc]
theorem i_set {s t v : Nat} (hs : s < 512) (ht : t < 3) (hv : v < 8) : nI s + ((nI v - nI (trt s t)) <<< ((nI 3 * nI t) &&& 31)) = nI (setT s t v) := by
  rw [i_dif ht hv (trt_lt s t), i_addsub (trt_le ht), setT]
def bI (b : Bool) : Int32 := if b then 1 else 0
theorem bl_t {b : Bool} {σ : aS} (h : b = true) : dP (some (.int (bI b))) σ (some (.int (nI 1))) σ := ⟨by rw [h]; rfl, rfl⟩
theorem bl_f {b : Bool} {σ : aS} (h : b = false) : dP (some (.int (bI b))) σ (some (.int (nI 0))) σ := ⟨by rw [h]; rfl, rfl⟩
theorem bI_ne {b : Bool} (h : ¬ bI b = 0) : b = true := by cases b with
  | true => rfl
  | false => exact absurd rfl h
theorem bI_eq {b : Bool} (h : bI b = 0) : b = false := by cases b with
  | false => rfl
  | true => exact absurd h (by decide)
theorem bI_z (b : Bool) : narrow .boolean (.int (bI b)) = .int (bI b) := by cases b <;> rfl
def isSt (x : Int32) : Bool := decide (0 ≤ x ∧ x < nI 512)
theorem isSt_t {x : Int32} (h : isSt x = true) : ∃ s : Nat, s < 512 ∧ x = nI s := by
  obtain ⟨h1, h2⟩ := of_decide_eq_true h
  obtain ⟨s, hs, rfl⟩ := nI_of (i_nlt.mpr h1)
  exact ⟨s, (nI_ltI hs (by decide)).mp h2, rfl⟩
theorem isSt_nI {s : Nat} (h : s < 512) : isSt (nI s) = true := decide_eq_true ⟨nI_pos' (by omega), nI_lt h (by decide)⟩
set_option maxRecDepth 100000 in
set_option maxHeartbeats 1000000 in
theorem ct_isState (l : Launch) (G : aG) {x : Int32} {σ : aS} : ACt l G yX11_isState cX11_isState 1 (some (.boolean)) 0 0 0 [.int x] σ (dP (some (.int (bI (isSt x)))) σ) := by
  refine ACt.intro (own := RX11) (nm := "isState") mk_X11_isState rfl rfl [some (.int x)] rfl (Nat.le_of_ble_eq_true rfl) (fun X hX hR => ?_)
  refine A_iload_n (pc := 0) rfl hX dX11_isState_0 ?_
  refine A_if_lt (pc := 1) 15 hX dX11_isState_1 rfl (fun c1 => ?_) (fun c1 => ?_)
  · refine A_iconst (pc := 15) (v := (nI 0)) (by decide) hX dX11_isState_15 ?_
    refine A_iret (pc := 16) hX hR dX11_isState_16 rfl rfl ?_
    exact bl_f (decide_eq_false fun q => i_nlt.mpr q.1 c1)
  · refine A_iload_n (pc := 4) rfl hX dX11_isState_4 ?_
    refine A_sipush (pc := 5) (v := (nI 512)) (by decide) hX dX11_isState_5 ?_
    refine A_icmp_ge (pc := 8) 15 hX dX11_isState_8 rfl (fun c8 => ?_) (fun c8 => ?_)
    · refine A_iconst (pc := 15) (v := (nI 0)) (by decide) hX dX11_isState_15 ?_
      refine A_iret (pc := 16) hX hR dX11_isState_16 rfl rfl ?_
      exact bl_f (decide_eq_false fun q => i_nle.mpr q.2 c8)
    · refine A_iconst (pc := 11) (v := (nI 1)) (by decide) hX dX11_isState_11 ?_
      refine A_goto (pc := 12) 16 hX dX11_isState_12 rfl ?_
      refine A_iret (pc := 16) hX hR dX11_isState_16 rfl rfl ?_
      exact bl_t (decide_eq_true ⟨i_nlt.mp c1, i_nle.mp c8⟩)
set_option maxRecDepth 100000 in
set_option maxHeartbeats 1000000 in
theorem ct_traitOf (l : Launch) (G : aG) {s t : Nat} (hs : s < 512) (ht : t < 3) {σ : aS} : ACt l G yX11_traitOf cX11_traitOf 2 (some .int) 0 0 0 [.int (nI s), .int (nI t)] σ (dP (some (.int (nI (trt s t)))) σ) := by
  refine ACt.intro (own := RX11) (nm := "traitOf") mk_X11_traitOf rfl rfl [some (.int (nI s)), some (.int (nI t))] rfl (Nat.le_of_ble_eq_true rfl) (fun X hX hR => ?_)
  refine A_iload_n (pc := 0) rfl hX dX11_traitOf_0 ?_
  refine A_iconst (pc := 1) (v := (nI 3)) (by decide) hX dX11_traitOf_1 ?_
  refine A_iload_n (pc := 2) rfl hX dX11_traitOf_2 ?_
  refine A_imul (pc := 3) hX dX11_traitOf_3 ?_
  refine A_ishr (pc := 4) hX dX11_traitOf_4 ?_
  refine A_bipush (pc := 5) (v := (nI 7)) (by decide) hX dX11_traitOf_5 ?_
  refine A_iand (pc := 7) hX dX11_traitOf_7 ?_
  refine A_iret (pc := 8) hX hR dX11_traitOf_8 rfl rfl ?_
  exact ⟨by rw [← i_tr hs ht], rfl⟩
def trS (s : Nat) : Nat := trt s 0 + trt s 1 + trt s 2
set_option maxRecDepth 100000 in
set_option maxHeartbeats 1000000 in
theorem ct_traitSum (l : Launch) (G : aG) {s : Nat} (hs : s < 512) {σ : aS} : ACt l G yX11_traitSum cX11_traitSum 1 (some .int) 1 0 0 [.int (nI s)] σ (dP (some (.int (nI (trS s)))) σ) := by
  refine ACt.intro (own := RX11) (nm := "traitSum") mk_X11_traitSum rfl rfl [some (.int (nI s))] rfl (Nat.le_of_ble_eq_true rfl) (fun X hX hR => ?_)
  refine A_iload_n (pc := 0) rfl hX dX11_traitSum_0 ?_
  refine A_iconst (pc := 1) (v := (nI 0)) (by decide) hX dX11_traitSum_1 ?_
  refine A_S2d (pc := 2) hX mk_X11_traitOf ls_X11_142 dX11_traitSum_2 (ct_traitOf l G hs (by decide)) rfl (Nat.le_of_ble_eq_true rfl) (Nat.le_of_ble_eq_true rfl) (Nat.le_of_ble_eq_true rfl) (Nat.le_of_ble_eq_true rfl) (Nat.le_of_ble_eq_true rfl) ?_
  refine A_iload_n (pc := 5) rfl hX dX11_traitSum_5 ?_
  refine A_iconst (pc := 6) (v := (nI 1)) (by decide) hX dX11_traitSum_6 ?_
  refine A_S2d (pc := 7) hX mk_X11_traitOf ls_X11_142 dX11_traitSum_7 (ct_traitOf l G hs (by decide)) rfl (Nat.le_of_ble_eq_true rfl) (Nat.le_of_ble_eq_true rfl) (Nat.le_of_ble_eq_true rfl) (Nat.le_of_ble_eq_true rfl) (Nat.le_of_ble_eq_true rfl) ?_
  refine A_iadd (pc := 10) hX dX11_traitSum_10 ?_
  refine A_iload_n (pc := 11) rfl hX dX11_traitSum_11 ?_
  refine A_iconst (pc := 12) (v := (nI 2)) (by decide) hX dX11_traitSum_12 ?_
  refine A_S2d (pc := 13) hX mk_X11_traitOf ls_X11_142 dX11_traitSum_13 (ct_traitOf l G hs (by decide)) rfl (Nat.le_of_ble_eq_true rfl) (Nat.le_of_ble_eq_true rfl) (Nat.le_of_ble_eq_true rfl) (Nat.le_of_ble_eq_true rfl) (Nat.le_of_ble_eq_true rfl) ?_
  refine A_iadd (pc := 16) hX dX11_traitSum_16 ?_
  refine A_iret (pc := 17) hX hR dX11_traitSum_17 rfl rfl ?_
  exact ⟨by rw [nI_add, nI_add]; rfl, rfl⟩
def ciK (k : Nat) : Nat := match k with
  | 0 => 0
  | 1 => 4
  | 2 => 9
  | 3 => 6
  | _ => 1
def oK (k t m d : Nat) : va_E := aO (ciK k) [.int (nI t), .int (nI m), .int (nI d)]
set_option maxRecDepth 100000 in
set_option maxHeartbeats 1000000 in
theorem ct_X0_init (l : Launch) (G : aG) {a ci : Nat} {x y z : Int32} {v0 v1 v2 : Value} {σ : aS} (h9 : LkP RX0 9 ci 0 .int true) (h15 : LkP RX0 15 ci 1 .int true) (h18 : LkP RX0 18 ci 2 .int true) (h : σ.2 a = some (aO ci [v0, v1, v2])) : ACt l G yX0_init cX0_init 4 (none) 1 0 0 [.ref a, .int x, .int y, .int z] σ (vP (fun σ' => σ'.2 a = some (aO ci [.int x, .int y, .int z]) ∧ Fr a (a + 1) σ σ')) := by
  refine ACt.intro (own := RX0) (nm := "<init>") mk_X0_init rfl rfl [some (.ref a), some (.int x), some (.int y), some (.int z)] rfl (Nat.le_of_ble_eq_true rfl) (fun X hX hR => ?_)
  refine A_aload_n (pc := 0) rfl hX dX0_init_0 ?_
  refine A_objInit (pc := 1) hX lo_X0_3 dX0_init_1 rfl (Nat.le_of_ble_eq_true rfl) (Nat.le_of_ble_eq_true rfl) ?_
  refine A_aload_n (pc := 4) rfl hX dX0_init_4 ?_
  refine A_iload_n (pc := 5) rfl hX dX0_init_5 ?_
  refine A_putF (pc := 6) (fs' := [_, _, _]) hX h9 dX0_init_6 (by repeat (first | assumption | exact aSet_s | exact aNew_s | refine lk_n ?_ (by omega) | refine lk_f (by assumption) ?_ (by omega) | refine lk_w ?_ (by omega))) (by exact Nat.le_of_ble_eq_true rfl) (by exact rfl) rfl rfl ?_
  refine A_aload_n (pc := 9) rfl hX dX0_init_9 ?_
  refine A_iload_n (pc := 10) rfl hX dX0_init_10 ?_
  refine A_putF (pc := 11) (fs' := [_, _, _]) hX h15 dX0_init_11 (by repeat (first | assumption | exact aSet_s | exact aNew_s | refine lk_n ?_ (by omega) | refine lk_f (by assumption) ?_ (by omega) | refine lk_w ?_ (by omega))) (by exact Nat.le_of_ble_eq_true rfl) (by exact rfl) rfl rfl ?_
  refine A_aload_n (pc := 14) rfl hX dX0_init_14 ?_
  refine A_iload_n (pc := 15) rfl hX dX0_init_15 ?_
  refine A_putF (pc := 16) (fs' := [_, _, _]) hX h18 dX0_init_16 (by repeat (first | assumption | exact aSet_s | exact aNew_s | refine lk_n ?_ (by omega) | refine lk_f (by assumption) ?_ (by omega) | refine lk_w ?_ (by omega))) (by exact Nat.le_of_ble_eq_true rfl) (by exact rfl) rfl rfl ?_
  refine A_ret (pc := 19) hX hR dX0_init_19 ?_
  exact ⟨rfl, aSet_s, ((Fr.rf.set (Nat.le_refl _) (Nat.lt_succ_self _)).set (Nat.le_refl _) (Nat.lt_succ_self _)).set (Nat.le_refl _) (Nat.lt_succ_self _)⟩
set_option maxRecDepth 100000 in
set_option maxHeartbeats 1000000 in
theorem ct_X4_init (l : Launch) (G : aG) {a ci : Nat} {x y z : Int32} {v0 v1 v2 : Value} {σ : aS} (h9 : LkP RX0 9 ci 0 .int true) (h15 : LkP RX0 15 ci 1 .int true) (h18 : LkP RX0 18 ci 2 .int true) (h : σ.2 a = some (aO ci [v0, v1, v2])) : ACt l G yX4_init cX4_init 4 (none) 2 0 0 [.ref a, .int x, .int y, .int z] σ (vP (fun σ' => σ'.2 a = some (aO ci [.int x, .int y, .int z]) ∧ Fr a (a + 1) σ σ')) := by
  refine ACt.intro (own := RX4) (nm := "<init>") mk_X4_init rfl rfl [some (.ref a), some (.int x), some (.int y), some (.int z)] rfl (Nat.le_of_ble_eq_true rfl) (fun X hX hR => ?_)
  refine A_aload_n (pc := 0) rfl hX dX4_init_0 ?_
  refine A_iload_n (pc := 1) rfl hX dX4_init_1 ?_
  refine A_iload_n (pc := 2) rfl hX dX4_init_2 ?_
  refine A_iload_n (pc := 3) rfl hX dX4_init_3 ?_
  refine A_I3v (pc := 4) hX mk_X0_init li_X4_3 dX4_init_4 (ct_X0_init l G h9 h15 h18 h) rfl (Nat.le_of_ble_eq_true rfl) (Nat.le_of_ble_eq_true rfl) (Nat.le_of_ble_eq_true rfl) (Nat.le_of_ble_eq_true rfl) (Nat.le_of_ble_eq_true rfl) (fun σ4 h4 => ?_)
  refine A_ret (pc := 7) hX hR dX4_init_7 ?_
  exact ⟨rfl, h4⟩
set_option maxRecDepth 100000 in
set_option maxHeartbeats 1000000 in
theorem ct_X9_init (l : Launch) (G : aG) {a ci : Nat} {x y z : Int32} {v0 v1 v2 : Value} {σ : aS} (h9 : LkP RX0 9 ci 0 .int true) (h15 : LkP RX0 15 ci 1 .int true) (h18 : LkP RX0 18 ci 2 .int true) (h : σ.2 a = some (aO ci [v0, v1, v2])) : ACt l G yX9_init cX9_init 4 (none) 2 0 0 [.ref a, .int x, .int y, .int z] σ (vP (fun σ' => σ'.2 a = some (aO ci [.int x, .int y, .int z]) ∧ Fr a (a + 1) σ σ')) := by
  refine ACt.intro (own := RX9) (nm := "<init>") mk_X9_init rfl rfl [some (.ref a), some (.int x), some (.int y), some (.int z)] rfl (Nat.le_of_ble_eq_true rfl) (fun X hX hR => ?_)
  refine A_aload_n (pc := 0) rfl hX dX9_init_0 ?_
  refine A_iload_n (pc := 1) rfl hX dX9_init_1 ?_
  refine A_iload_n (pc := 2) rfl hX dX9_init_2 ?_
  refine A_iload_n (pc := 3) rfl hX dX9_init_3 ?_
  refine A_I3v (pc := 4) hX mk_X0_init li_X9_3 dX9_init_4 (ct_X0_init l G h9 h15 h18 h) rfl (Nat.le_of_ble_eq_true rfl) (Nat.le_of_ble_eq_true rfl) (Nat.le_of_ble_eq_true rfl) (Nat.le_of_ble_eq_true rfl) (Nat.le_of_ble_eq_true rfl) (fun σ4 h4 => ?_)
  refine A_ret (pc := 7) hX hR dX9_init_7 ?_
  exact ⟨rfl, h4⟩
set_option maxRecDepth 100000 in
set_option maxHeartbeats 1000000 in
theorem ct_X6_init (l : Launch) (G : aG) {a ci : Nat} {x y z : Int32} {v0 v1 v2 : Value} {σ : aS} (h9 : LkP RX0 9 ci 0 .int true) (h15 : LkP RX0 15 ci 1 .int true) (h18 : LkP RX0 18 ci 2 .int true) (h : σ.2 a = some (aO ci [v0, v1, v2])) : ACt l G yX6_init cX6_init 4 (none) 2 0 0 [.ref a, .int x, .int y, .int z] σ (vP (fun σ' => σ'.2 a = some (aO ci [.int x, .int y, .int z]) ∧ Fr a (a + 1) σ σ')) := by
  refine ACt.intro (own := RX6) (nm := "<init>") mk_X6_init rfl rfl [some (.ref a), some (.int x), some (.int y), some (.int z)] rfl (Nat.le_of_ble_eq_true rfl) (fun X hX hR => ?_)
  refine A_aload_n (pc := 0) rfl hX dX6_init_0 ?_
  refine A_iload_n (pc := 1) rfl hX dX6_init_1 ?_
  refine A_iload_n (pc := 2) rfl hX dX6_init_2 ?_
  refine A_iload_n (pc := 3) rfl hX dX6_init_3 ?_
  refine A_I3v (pc := 4) hX mk_X0_init li_X6_3 dX6_init_4 (ct_X0_init l G h9 h15 h18 h) rfl (Nat.le_of_ble_eq_true rfl) (Nat.le_of_ble_eq_true rfl) (Nat.le_of_ble_eq_true rfl) (Nat.le_of_ble_eq_true rfl) (Nat.le_of_ble_eq_true rfl) (fun σ4 h4 => ?_)
  refine A_ret (pc := 7) hX hR dX6_init_7 ?_
  exact ⟨rfl, h4⟩
set_option maxRecDepth 100000 in
set_option maxHeartbeats 1000000 in
theorem ct_X1_init (l : Launch) (G : aG) {a ci : Nat} {x y z : Int32} {v0 v1 v2 : Value} {σ : aS} (h9 : LkP RX0 9 ci 0 .int true) (h15 : LkP RX0 15 ci 1 .int true) (h18 : LkP RX0 18 ci 2 .int true) (h : σ.2 a = some (aO ci [v0, v1, v2])) : ACt l G yX1_init cX1_init 4 (none) 3 0 0 [.ref a, .int x, .int y, .int z] σ (vP (fun σ' => σ'.2 a = some (aO ci [.int x, .int y, .int z]) ∧ Fr a (a + 1) σ σ')) := by
  refine ACt.intro (own := RX1) (nm := "<init>") mk_X1_init rfl rfl [some (.ref a), some (.int x), some (.int y), some (.int z)] rfl (Nat.le_of_ble_eq_true rfl) (fun X hX hR => ?_)
  refine A_aload_n (pc := 0) rfl hX dX1_init_0 ?_
  refine A_iload_n (pc := 1) rfl hX dX1_init_1 ?_
  refine A_iload_n (pc := 2) rfl hX dX1_init_2 ?_
  refine A_iload_n (pc := 3) rfl hX dX1_init_3 ?_
  refine A_I3v (pc := 4) hX mk_X4_init li_X1_3 dX1_init_4 (ct_X4_init l G h9 h15 h18 h) rfl (Nat.le_of_ble_eq_true rfl) (Nat.le_of_ble_eq_true rfl) (Nat.le_of_ble_eq_true rfl) (Nat.le_of_ble_eq_true rfl) (Nat.le_of_ble_eq_true rfl) (fun σ4 h4 => ?_)
  refine A_ret (pc := 7) hX hR dX1_init_7 ?_
  exact ⟨rfl, h4⟩
set_option maxRecDepth 100000 in
set_option maxHeartbeats 1000000 in
theorem ct_X0_kind (l : Launch) (G : aG) {a : Nat} {σ : aS} : ACt l G yX0_kind cX0_kind 1 (some .int) 0 0 0 [.ref a] σ (dP (some (.int (nI 0))) σ) := by
  refine ACt.intro (own := RX0) (nm := "kind") mk_X0_kind rfl rfl [some (.ref a)] rfl (Nat.le_of_ble_eq_true rfl) (fun X hX hR => ?_)
  refine A_iconst (pc := 0) (v := (nI 0)) (by decide) hX dX0_kind_0 ?_
  refine A_iret (pc := 1) hX hR dX0_kind_1 rfl rfl ?_
  exact ⟨rfl, rfl⟩
set_option maxRecDepth 100000 in
set_option maxHeartbeats 1000000 in
theorem ct_X4_kind (l : Launch) (G : aG) {a : Nat} {σ : aS} : ACt l G yX4_kind cX4_kind 1 (some .int) 0 0 0 [.ref a] σ (dP (some (.int (nI 1))) σ) := by
  refine ACt.intro (own := RX4) (nm := "kind") mk_X4_kind rfl rfl [some (.ref a)] rfl (Nat.le_of_ble_eq_true rfl) (fun X hX hR => ?_)
  refine A_iconst (pc := 0) (v := (nI 1)) (by decide) hX dX4_kind_0 ?_
  refine A_iret (pc := 1) hX hR dX4_kind_1 rfl rfl ?_
  exact ⟨rfl, rfl⟩
set_option maxRecDepth 100000 in
set_option maxHeartbeats 1000000 in
theorem ct_X9_kind (l : Launch) (G : aG) {a : Nat} {σ : aS} : ACt l G yX9_kind cX9_kind 1 (some .int) 0 0 0 [.ref a] σ (dP (some (.int (nI 2))) σ) := by
  refine ACt.intro (own := RX9) (nm := "kind") mk_X9_kind rfl rfl [some (.ref a)] rfl (Nat.le_of_ble_eq_true rfl) (fun X hX hR => ?_)
  refine A_iconst (pc := 0) (v := (nI 2)) (by decide) hX dX9_kind_0 ?_
  refine A_iret (pc := 1) hX hR dX9_kind_1 rfl rfl ?_
  exact ⟨rfl, rfl⟩
set_option maxRecDepth 100000 in
set_option maxHeartbeats 1000000 in
theorem ct_X6_kind (l : Launch) (G : aG) {a : Nat} {σ : aS} : ACt l G yX6_kind cX6_kind 1 (some .int) 0 0 0 [.ref a] σ (dP (some (.int (nI 3))) σ) := by
  refine ACt.intro (own := RX6) (nm := "kind") mk_X6_kind rfl rfl [some (.ref a)] rfl (Nat.le_of_ble_eq_true rfl) (fun X hX hR => ?_)
  refine A_iconst (pc := 0) (v := (nI 3)) (by decide) hX dX6_kind_0 ?_
  refine A_iret (pc := 1) hX hR dX6_kind_1 rfl rfl ?_
  exact ⟨rfl, rfl⟩
set_option maxRecDepth 100000 in
set_option maxHeartbeats 1000000 in
theorem ct_X1_kind (l : Launch) (G : aG) {a : Nat} {σ : aS} : ACt l G yX1_kind cX1_kind 1 (some .int) 0 0 0 [.ref a] σ (dP (some (.int (nI 4))) σ) := by
  refine ACt.intro (own := RX1) (nm := "kind") mk_X1_kind rfl rfl [some (.ref a)] rfl (Nat.le_of_ble_eq_true rfl) (fun X hX hR => ?_)
  refine A_iconst (pc := 0) (v := (nI 4)) (by decide) hX dX1_kind_0 ?_
  refine A_iret (pc := 1) hX hR dX1_kind_1 rfl rfl ?_
  exact ⟨rfl, rfl⟩
set_option maxRecDepth 100000 in
set_option maxHeartbeats 1000000 in
theorem ct_X0_changed (l : Launch) (G : aG) {a v : Nat} {x z : Value} {m : Nat} {σ : aS} (h : σ.2 a = some (aO 0 [x, .int (nI m), z])) (hv : v < 8) (hm : m < 8) : ACt l G yX0_changed cX0_changed 2 (some .int) 0 0 0 [.ref a, .int (nI v)] σ (dP (some (.int (nI ((v + m) % 8)))) σ) := by
  refine ACt.intro (own := RX0) (nm := "changed") mk_X0_changed rfl rfl [some (.ref a), some (.int (nI v))] rfl (Nat.le_of_ble_eq_true rfl) (fun X hX hR => ?_)
  refine A_iload_n (pc := 0) rfl hX dX0_changed_0 ?_
  refine A_aload_n (pc := 1) rfl hX dX0_changed_1 ?_
  refine A_getf (pc := 2) hX fl_X0_15_0 dX0_changed_2 (by repeat (first | assumption | exact aSet_s | exact aNew_s | refine lk_n ?_ (by omega) | refine lk_f (by assumption) ?_ (by omega) | refine lk_w ?_ (by omega))) (by exact rfl) ?_
  refine A_iadd (pc := 5) hX dX0_changed_5 ?_
  refine A_bipush (pc := 6) (v := (nI 7)) (by decide) hX dX0_changed_6 ?_
  refine A_iand (pc := 8) hX dX0_changed_8 ?_
  refine A_iret (pc := 9) hX hR dX0_changed_9 rfl rfl ?_
  exact ⟨by rw [nI_add, i_and7 (by omega)], rfl⟩
set_option maxRecDepth 100000 in
set_option maxHeartbeats 1000000 in
theorem ct_X4_changed (l : Launch) (G : aG) {a v : Nat} {x z : Value} {m : Nat} {σ : aS} (h : σ.2 a = some (aO 4 [x, .int (nI m), z])) : ACt l G yX4_changed cX4_changed 2 (some .int) 0 0 0 [.ref a, .int (nI v)] σ (dP (some (.int (nI m))) σ) := by
  refine ACt.intro (own := RX4) (nm := "changed") mk_X4_changed rfl rfl [some (.ref a), some (.int (nI v))] rfl (Nat.le_of_ble_eq_true rfl) (fun X hX hR => ?_)
  refine A_aload_n (pc := 0) rfl hX dX4_changed_0 ?_
  refine A_getf (pc := 1) hX fl_X4_9_4 dX4_changed_1 (by repeat (first | assumption | exact aSet_s | exact aNew_s | refine lk_n ?_ (by omega) | refine lk_f (by assumption) ?_ (by omega) | refine lk_w ?_ (by omega))) (by exact rfl) ?_
  refine A_iret (pc := 4) hX hR dX4_changed_4 rfl rfl ?_
  exact ⟨rfl, rfl⟩
set_option maxRecDepth 100000 in
set_option maxHeartbeats 1000000 in
theorem ct_X9_changed (l : Launch) (G : aG) {a v : Nat} {σ : aS} (hv : v < 8) : ACt l G yX9_changed cX9_changed 2 (some .int) 0 0 0 [.ref a, .int (nI v)] σ (dP (some (.int (nI (7 - v)))) σ) := by
  refine ACt.intro (own := RX9) (nm := "changed") mk_X9_changed rfl rfl [some (.ref a), some (.int (nI v))] rfl (Nat.le_of_ble_eq_true rfl) (fun X hX hR => ?_)
  refine A_bipush (pc := 0) (v := (nI 7)) (by decide) hX dX9_changed_0 ?_
  refine A_iload_n (pc := 2) rfl hX dX9_changed_2 ?_
  refine A_isub (pc := 3) hX dX9_changed_3 ?_
  refine A_iret (pc := 4) hX hR dX9_changed_4 rfl rfl ?_
  exact ⟨by rw [pk_sub (by omega)], rfl⟩
set_option maxRecDepth 100000 in
set_option maxHeartbeats 1000000 in
theorem ct_X1_changed (l : Launch) (G : aG) {a v : Nat} {σ : aS} (hv : v < 8) : ACt l G yX1_changed cX1_changed 2 (some .int) 0 0 0 [.ref a, .int (nI v)] σ (dP (some (.int (nI (2 * v % 8)))) σ) := by
  refine ACt.intro (own := RX1) (nm := "changed") mk_X1_changed rfl rfl [some (.ref a), some (.int (nI v))] rfl (Nat.le_of_ble_eq_true rfl) (fun X hX hR => ?_)
  refine A_iconst (pc := 0) (v := (nI 2)) (by decide) hX dX1_changed_0 ?_
  refine A_iload_n (pc := 1) rfl hX dX1_changed_1 ?_
  refine A_imul (pc := 2) hX dX1_changed_2 ?_
  refine A_bipush (pc := 3) (v := (nI 7)) (by decide) hX dX1_changed_3 ?_
  refine A_iand (pc := 5) hX dX1_changed_5 ?_
  refine A_iret (pc := 6) hX hR dX1_changed_6 rfl rfl ?_
  exact ⟨by rw [pk_mul, i_and7 (by omega)], rfl⟩
set_option maxRecDepth 100000 in
set_option maxHeartbeats 1000000 in
theorem ct_stateAfter_0 (l : Launch) (G : aG) {a s t m : Nat} {z : Value} {σ : aS} (h : σ.2 a = some (aO 0 [.int (nI t), .int (nI m), z])) (hs : s < 512) (ht : t < 3) (hm : m < 8) : ACt l G yX0_stateAfter cX0_stateAfter 3 (some .int) 1 0 0 [.ref a, .int (nI s)] σ (dP (some (.int (nI (mk 0 t m s)))) σ) := by
  refine ACt.intro (own := RX0) (nm := "stateAfter") mk_X0_stateAfter rfl rfl [some (.ref a), some (.int (nI s)), none] rfl (Nat.le_of_ble_eq_true rfl) (fun X hX hR => ?_)
  refine A_iload_n (pc := 0) rfl hX dX0_stateAfter_0 ?_
  refine A_aload_n (pc := 1) rfl hX dX0_stateAfter_1 ?_
  refine A_getf (pc := 2) hX fl_X0_9_0 dX0_stateAfter_2 (by repeat (first | assumption | exact aSet_s | exact aNew_s | refine lk_n ?_ (by omega) | refine lk_f (by assumption) ?_ (by omega) | refine lk_w ?_ (by omega))) (by exact rfl) ?_
  refine A_S2d (pc := 5) hX mk_X11_traitOf ls_X0_21 dX0_stateAfter_5 (ct_traitOf l G hs ht) rfl (Nat.le_of_ble_eq_true rfl) (Nat.le_of_ble_eq_true rfl) (Nat.le_of_ble_eq_true rfl) (Nat.le_of_ble_eq_true rfl) (Nat.le_of_ble_eq_true rfl) ?_
  refine A_istore_n (pc := 8) (lv' := [_, _, _]) hX dX0_stateAfter_8 (Nat.le_of_ble_eq_true rfl) rfl rfl ?_
  refine A_iload_n (pc := 9) rfl hX dX0_stateAfter_9 ?_
  refine A_aload_n (pc := 10) rfl hX dX0_stateAfter_10 ?_
  refine A_iload_n (pc := 11) rfl hX dX0_stateAfter_11 ?_
  refine A_U1d (pc := 12) hX mk_X0_changed lu_X0_25_0 dX0_stateAfter_12 (by repeat (first | assumption | exact aSet_s | exact aNew_s | refine lk_n ?_ (by omega) | refine lk_f (by assumption) ?_ (by omega) | refine lk_w ?_ (by omega))) (ct_X0_changed l G h (trt_lt _ _) hm) rfl (Nat.le_of_ble_eq_true rfl) (Nat.le_of_ble_eq_true rfl) (Nat.le_of_ble_eq_true rfl) (Nat.le_of_ble_eq_true rfl) (Nat.le_of_ble_eq_true rfl) ?_
  refine A_iload_n (pc := 15) rfl hX dX0_stateAfter_15 ?_
  refine A_isub (pc := 16) hX dX0_stateAfter_16 ?_
  refine A_iconst (pc := 17) (v := (nI 3)) (by decide) hX dX0_stateAfter_17 ?_
  refine A_aload_n (pc := 18) rfl hX dX0_stateAfter_18 ?_
  refine A_getf (pc := 19) hX fl_X0_9_0 dX0_stateAfter_19 (by repeat (first | assumption | exact aSet_s | exact aNew_s | refine lk_n ?_ (by omega) | refine lk_f (by assumption) ?_ (by omega) | refine lk_w ?_ (by omega))) (by exact rfl) ?_
  refine A_imul (pc := 22) hX dX0_stateAfter_22 ?_
  refine A_ishl (pc := 23) hX dX0_stateAfter_23 ?_
  refine A_iadd (pc := 24) hX dX0_stateAfter_24 ?_
  refine A_iret (pc := 25) hX hR dX0_stateAfter_25 rfl rfl ?_
  exact ⟨by rw [i_set hs ht (Nat.mod_lt _ (by decide))]; rfl, rfl⟩
set_option maxRecDepth 100000 in
set_option maxHeartbeats 1000000 in
theorem ct_stateAfter_1 (l : Launch) (G : aG) {a s t m : Nat} {z : Value} {σ : aS} (h : σ.2 a = some (aO 4 [.int (nI t), .int (nI m), z])) (hs : s < 512) (ht : t < 3) (hm : m < 8) : ACt l G yX0_stateAfter cX0_stateAfter 3 (some .int) 1 0 0 [.ref a, .int (nI s)] σ (dP (some (.int (nI (mk 1 t m s)))) σ) := by
  refine ACt.intro (own := RX0) (nm := "stateAfter") mk_X0_stateAfter rfl rfl [some (.ref a), some (.int (nI s)), none] rfl (Nat.le_of_ble_eq_true rfl) (fun X hX hR => ?_)
  refine A_iload_n (pc := 0) rfl hX dX0_stateAfter_0 ?_
  refine A_aload_n (pc := 1) rfl hX dX0_stateAfter_1 ?_
  refine A_getf (pc := 2) hX fl_X0_9_4 dX0_stateAfter_2 (by repeat (first | assumption | exact aSet_s | exact aNew_s | refine lk_n ?_ (by omega) | refine lk_f (by assumption) ?_ (by omega) | refine lk_w ?_ (by omega))) (by exact rfl) ?_
  refine A_S2d (pc := 5) hX mk_X11_traitOf ls_X0_21 dX0_stateAfter_5 (ct_traitOf l G hs ht) rfl (Nat.le_of_ble_eq_true rfl) (Nat.le_of_ble_eq_true rfl) (Nat.le_of_ble_eq_true rfl) (Nat.le_of_ble_eq_true rfl) (Nat.le_of_ble_eq_true rfl) ?_
  refine A_istore_n (pc := 8) (lv' := [_, _, _]) hX dX0_stateAfter_8 (Nat.le_of_ble_eq_true rfl) rfl rfl ?_
  refine A_iload_n (pc := 9) rfl hX dX0_stateAfter_9 ?_
  refine A_aload_n (pc := 10) rfl hX dX0_stateAfter_10 ?_
  refine A_iload_n (pc := 11) rfl hX dX0_stateAfter_11 ?_
  refine A_U1d (pc := 12) hX mk_X4_changed lu_X0_25_4 dX0_stateAfter_12 (by repeat (first | assumption | exact aSet_s | exact aNew_s | refine lk_n ?_ (by omega) | refine lk_f (by assumption) ?_ (by omega) | refine lk_w ?_ (by omega))) (ct_X4_changed l G h) rfl (Nat.le_of_ble_eq_true rfl) (Nat.le_of_ble_eq_true rfl) (Nat.le_of_ble_eq_true rfl) (Nat.le_of_ble_eq_true rfl) (Nat.le_of_ble_eq_true rfl) ?_
  refine A_iload_n (pc := 15) rfl hX dX0_stateAfter_15 ?_
  refine A_isub (pc := 16) hX dX0_stateAfter_16 ?_
  refine A_iconst (pc := 17) (v := (nI 3)) (by decide) hX dX0_stateAfter_17 ?_
  refine A_aload_n (pc := 18) rfl hX dX0_stateAfter_18 ?_
  refine A_getf (pc := 19) hX fl_X0_9_4 dX0_stateAfter_19 (by repeat (first | assumption | exact aSet_s | exact aNew_s | refine lk_n ?_ (by omega) | refine lk_f (by assumption) ?_ (by omega) | refine lk_w ?_ (by omega))) (by exact rfl) ?_
  refine A_imul (pc := 22) hX dX0_stateAfter_22 ?_
  refine A_ishl (pc := 23) hX dX0_stateAfter_23 ?_
  refine A_iadd (pc := 24) hX dX0_stateAfter_24 ?_
  refine A_iret (pc := 25) hX hR dX0_stateAfter_25 rfl rfl ?_
  exact ⟨by rw [i_set hs ht hm]; rfl, rfl⟩
set_option maxRecDepth 100000 in
set_option maxHeartbeats 1000000 in
theorem ct_stateAfter_2 (l : Launch) (G : aG) {a s t m : Nat} {z : Value} {σ : aS} (h : σ.2 a = some (aO 9 [.int (nI t), .int (nI m), z])) (hs : s < 512) (ht : t < 3) (hm : m < 8) : ACt l G yX0_stateAfter cX0_stateAfter 3 (some .int) 1 0 0 [.ref a, .int (nI s)] σ (dP (some (.int (nI (mk 2 t m s)))) σ) := by
  refine ACt.intro (own := RX0) (nm := "stateAfter") mk_X0_stateAfter rfl rfl [some (.ref a), some (.int (nI s)), none] rfl (Nat.le_of_ble_eq_true rfl) (fun X hX hR => ?_)
  refine A_iload_n (pc := 0) rfl hX dX0_stateAfter_0 ?_
  refine A_aload_n (pc := 1) rfl hX dX0_stateAfter_1 ?_
  refine A_getf (pc := 2) hX fl_X0_9_9 dX0_stateAfter_2 (by repeat (first | assumption | exact aSet_s | exact aNew_s | refine lk_n ?_ (by omega) | refine lk_f (by assumption) ?_ (by omega) | refine lk_w ?_ (by omega))) (by exact rfl) ?_
  refine A_S2d (pc := 5) hX mk_X11_traitOf ls_X0_21 dX0_stateAfter_5 (ct_traitOf l G hs ht) rfl (Nat.le_of_ble_eq_true rfl) (Nat.le_of_ble_eq_true rfl) (Nat.le_of_ble_eq_true rfl) (Nat.le_of_ble_eq_true rfl) (Nat.le_of_ble_eq_true rfl) ?_
  refine A_istore_n (pc := 8) (lv' := [_, _, _]) hX dX0_stateAfter_8 (Nat.le_of_ble_eq_true rfl) rfl rfl ?_
  refine A_iload_n (pc := 9) rfl hX dX0_stateAfter_9 ?_
  refine A_aload_n (pc := 10) rfl hX dX0_stateAfter_10 ?_
  refine A_iload_n (pc := 11) rfl hX dX0_stateAfter_11 ?_
  refine A_U1d (pc := 12) hX mk_X9_changed lu_X0_25_9 dX0_stateAfter_12 (by repeat (first | assumption | exact aSet_s | exact aNew_s | refine lk_n ?_ (by omega) | refine lk_f (by assumption) ?_ (by omega) | refine lk_w ?_ (by omega))) (ct_X9_changed l G (trt_lt _ _)) rfl (Nat.le_of_ble_eq_true rfl) (Nat.le_of_ble_eq_true rfl) (Nat.le_of_ble_eq_true rfl) (Nat.le_of_ble_eq_true rfl) (Nat.le_of_ble_eq_true rfl) ?_
  refine A_iload_n (pc := 15) rfl hX dX0_stateAfter_15 ?_
  refine A_isub (pc := 16) hX dX0_stateAfter_16 ?_
  refine A_iconst (pc := 17) (v := (nI 3)) (by decide) hX dX0_stateAfter_17 ?_
  refine A_aload_n (pc := 18) rfl hX dX0_stateAfter_18 ?_
  refine A_getf (pc := 19) hX fl_X0_9_9 dX0_stateAfter_19 (by repeat (first | assumption | exact aSet_s | exact aNew_s | refine lk_n ?_ (by omega) | refine lk_f (by assumption) ?_ (by omega) | refine lk_w ?_ (by omega))) (by exact rfl) ?_
  refine A_imul (pc := 22) hX dX0_stateAfter_22 ?_
  refine A_ishl (pc := 23) hX dX0_stateAfter_23 ?_
  refine A_iadd (pc := 24) hX dX0_stateAfter_24 ?_
  refine A_iret (pc := 25) hX hR dX0_stateAfter_25 rfl rfl ?_
  exact ⟨by rw [i_set hs ht (by have := trt_lt s t; omega)]; rfl, rfl⟩
set_option maxRecDepth 100000 in
set_option maxHeartbeats 1000000 in
theorem ct_stateAfter_4 (l : Launch) (G : aG) {a s t m : Nat} {z : Value} {σ : aS} (h : σ.2 a = some (aO 1 [.int (nI t), .int (nI m), z])) (hs : s < 512) (ht : t < 3) (hm : m < 8) : ACt l G yX0_stateAfter cX0_stateAfter 3 (some .int) 1 0 0 [.ref a, .int (nI s)] σ (dP (some (.int (nI (mk 4 t m s)))) σ) := by
  refine ACt.intro (own := RX0) (nm := "stateAfter") mk_X0_stateAfter rfl rfl [some (.ref a), some (.int (nI s)), none] rfl (Nat.le_of_ble_eq_true rfl) (fun X hX hR => ?_)
  refine A_iload_n (pc := 0) rfl hX dX0_stateAfter_0 ?_
  refine A_aload_n (pc := 1) rfl hX dX0_stateAfter_1 ?_
  refine A_getf (pc := 2) hX fl_X0_9_1 dX0_stateAfter_2 (by repeat (first | assumption | exact aSet_s | exact aNew_s | refine lk_n ?_ (by omega) | refine lk_f (by assumption) ?_ (by omega) | refine lk_w ?_ (by omega))) (by exact rfl) ?_
  refine A_S2d (pc := 5) hX mk_X11_traitOf ls_X0_21 dX0_stateAfter_5 (ct_traitOf l G hs ht) rfl (Nat.le_of_ble_eq_true rfl) (Nat.le_of_ble_eq_true rfl) (Nat.le_of_ble_eq_true rfl) (Nat.le_of_ble_eq_true rfl) (Nat.le_of_ble_eq_true rfl) ?_
  refine A_istore_n (pc := 8) (lv' := [_, _, _]) hX dX0_stateAfter_8 (Nat.le_of_ble_eq_true rfl) rfl rfl ?_
  refine A_iload_n (pc := 9) rfl hX dX0_stateAfter_9 ?_
  refine A_aload_n (pc := 10) rfl hX dX0_stateAfter_10 ?_
  refine A_iload_n (pc := 11) rfl hX dX0_stateAfter_11 ?_
  refine A_U1d (pc := 12) hX mk_X1_changed lu_X0_25_1 dX0_stateAfter_12 (by repeat (first | assumption | exact aSet_s | exact aNew_s | refine lk_n ?_ (by omega) | refine lk_f (by assumption) ?_ (by omega) | refine lk_w ?_ (by omega))) (ct_X1_changed l G (trt_lt _ _)) rfl (Nat.le_of_ble_eq_true rfl) (Nat.le_of_ble_eq_true rfl) (Nat.le_of_ble_eq_true rfl) (Nat.le_of_ble_eq_true rfl) (Nat.le_of_ble_eq_true rfl) ?_
  refine A_iload_n (pc := 15) rfl hX dX0_stateAfter_15 ?_
  refine A_isub (pc := 16) hX dX0_stateAfter_16 ?_
  refine A_iconst (pc := 17) (v := (nI 3)) (by decide) hX dX0_stateAfter_17 ?_
  refine A_aload_n (pc := 18) rfl hX dX0_stateAfter_18 ?_
  refine A_getf (pc := 19) hX fl_X0_9_1 dX0_stateAfter_19 (by repeat (first | assumption | exact aSet_s | exact aNew_s | refine lk_n ?_ (by omega) | refine lk_f (by assumption) ?_ (by omega) | refine lk_w ?_ (by omega))) (by exact rfl) ?_
  refine A_imul (pc := 22) hX dX0_stateAfter_22 ?_
  refine A_ishl (pc := 23) hX dX0_stateAfter_23 ?_
  refine A_iadd (pc := 24) hX dX0_stateAfter_24 ?_
  refine A_iret (pc := 25) hX hR dX0_stateAfter_25 rfl rfl ?_
  exact ⟨by rw [i_set hs ht (Nat.mod_lt _ (by decide))]; rfl, rfl⟩
theorem i_swap {s t m : Nat} (hs : s < 512) (ht : t < 3) : nI s + ((nI (trt s ((t + 1) % 3)) - nI (trt s t)) <<< ((nI 3 * nI t) &&& 31)) + ((nI (trt s t) - nI (trt s ((t + 1) % 3))) <<< ((nI 3 * nI ((t + 1) % 3)) &&& 31)) = nI (mk 3 t m s) := by
  have h1 := trt_lt s ((t + 1) % 3)
  have ht1 : (t + 1) % 3 < 3 := Nat.mod_lt _ (by decide)
  have hne : (t + 1) % 3 ≠ t := by omega
  rw [i_set hs ht h1]
  have e := trt_setT_ne hs ht ht1 hne h1
  have := i_set (setT_lt hs ht h1) ht1 (trt_lt s t)
  rw [e] at this
  exact this
set_option maxRecDepth 100000 in
set_option maxHeartbeats 1000000 in
theorem ct_stateAfter_3 (l : Launch) (G : aG) {a s t m : Nat} {y z : Value} {σ : aS} (h : σ.2 a = some (aO 6 [.int (nI t), y, z])) (hs : s < 512) (ht : t < 3) : ACt l G yX6_stateAfter cX6_stateAfter 5 (some .int) 1 0 0 [.ref a, .int (nI s)] σ (dP (some (.int (nI (mk 3 t m s)))) σ) := by
  refine ACt.intro (own := RX6) (nm := "stateAfter") mk_X6_stateAfter rfl rfl [some (.ref a), some (.int (nI s)), none, none, none] rfl (Nat.le_of_ble_eq_true rfl) (fun X hX hR => ?_)
  refine A_aload_n (pc := 0) rfl hX dX6_stateAfter_0 ?_
  refine A_getf (pc := 1) hX fl_X6_9_6 dX6_stateAfter_1 (by repeat (first | assumption | exact aSet_s | exact aNew_s | refine lk_n ?_ (by omega) | refine lk_f (by assumption) ?_ (by omega) | refine lk_w ?_ (by omega))) (by exact rfl) ?_
  refine A_iconst (pc := 4) (v := (nI 1)) (by decide) hX dX6_stateAfter_4 ?_
  refine A_iadd (pc := 5) hX dX6_stateAfter_5 ?_
  refine A_iconst (pc := 6) (v := (nI 3)) (by decide) hX dX6_stateAfter_6 ?_
  refine A_irem (pc := 7) (by decide) hX dX6_stateAfter_7 ?_
  refine A_top (y := nI ((t + 1) % 3)) (by rw [nI_add, pk_rem (by omega) (by decide) (by decide)]) ?_
  refine A_istore_n (pc := 8) (lv' := [_, _, _, _, _]) hX dX6_stateAfter_8 (Nat.le_of_ble_eq_true rfl) rfl rfl ?_
  refine A_iload_n (pc := 9) rfl hX dX6_stateAfter_9 ?_
  refine A_aload_n (pc := 10) rfl hX dX6_stateAfter_10 ?_
  refine A_getf (pc := 11) hX fl_X6_9_6 dX6_stateAfter_11 (by repeat (first | assumption | exact aSet_s | exact aNew_s | refine lk_n ?_ (by omega) | refine lk_f (by assumption) ?_ (by omega) | refine lk_w ?_ (by omega))) (by exact rfl) ?_
  refine A_S2d (pc := 14) hX mk_X11_traitOf ls_X6_15 dX6_stateAfter_14 (ct_traitOf l G hs ht) rfl (Nat.le_of_ble_eq_true rfl) (Nat.le_of_ble_eq_true rfl) (Nat.le_of_ble_eq_true rfl) (Nat.le_of_ble_eq_true rfl) (Nat.le_of_ble_eq_true rfl) ?_
  refine A_istore_n (pc := 17) (lv' := [_, _, _, _, _]) hX dX6_stateAfter_17 (Nat.le_of_ble_eq_true rfl) rfl rfl ?_
  refine A_iload_n (pc := 18) rfl hX dX6_stateAfter_18 ?_
  refine A_iload_n (pc := 19) rfl hX dX6_stateAfter_19 ?_
  refine A_S2d (pc := 20) hX mk_X11_traitOf ls_X6_15 dX6_stateAfter_20 (ct_traitOf l G hs (Nat.mod_lt _ (by decide))) rfl (Nat.le_of_ble_eq_true rfl) (Nat.le_of_ble_eq_true rfl) (Nat.le_of_ble_eq_true rfl) (Nat.le_of_ble_eq_true rfl) (Nat.le_of_ble_eq_true rfl) ?_
  refine A_istore (pc := 23) (lv' := [_, _, _, _, _]) hX dX6_stateAfter_23 (Nat.le_of_ble_eq_true rfl) rfl rfl ?_
  refine A_iload_n (pc := 25) rfl hX dX6_stateAfter_25 ?_
  refine A_iload (pc := 26) rfl hX dX6_stateAfter_26 ?_
  refine A_iload_n (pc := 28) rfl hX dX6_stateAfter_28 ?_
  refine A_isub (pc := 29) hX dX6_stateAfter_29 ?_
  refine A_iconst (pc := 30) (v := (nI 3)) (by decide) hX dX6_stateAfter_30 ?_
  refine A_aload_n (pc := 31) rfl hX dX6_stateAfter_31 ?_
  refine A_getf (pc := 32) hX fl_X6_9_6 dX6_stateAfter_32 (by repeat (first | assumption | exact aSet_s | exact aNew_s | refine lk_n ?_ (by omega) | refine lk_f (by assumption) ?_ (by omega) | refine lk_w ?_ (by omega))) (by exact rfl) ?_
  refine A_imul (pc := 35) hX dX6_stateAfter_35 ?_
  refine A_ishl (pc := 36) hX dX6_stateAfter_36 ?_
  refine A_iadd (pc := 37) hX dX6_stateAfter_37 ?_
  refine A_iload_n (pc := 38) rfl hX dX6_stateAfter_38 ?_
  refine A_iload (pc := 39) rfl hX dX6_stateAfter_39 ?_
  refine A_isub (pc := 41) hX dX6_stateAfter_41 ?_
  refine A_iconst (pc := 42) (v := (nI 3)) (by decide) hX dX6_stateAfter_42 ?_
  refine A_iload_n (pc := 43) rfl hX dX6_stateAfter_43 ?_
  refine A_imul (pc := 44) hX dX6_stateAfter_44 ?_
  refine A_ishl (pc := 45) hX dX6_stateAfter_45 ?_
  refine A_iadd (pc := 46) hX dX6_stateAfter_46 ?_
  refine A_iret (pc := 47) hX hR dX6_stateAfter_47 rfl rfl ?_
  exact ⟨by rw [i_swap hs ht], rfl⟩
end
section
/-! the page: p the object, p + 1 its codes -/
def RPg (G : aG) (p len : Nat) (cd : Nat → Nat) (σ : aS) : Prop := ∃ f : Nat → Int32, σ.2 p = some (aO 2 [.ref (p + 1), .int (nI len)]) ∧ σ.2 (p + 1) = some (aI G 30 f) ∧ len ≤ 30 ∧ ∀ j, j < len → f j = nI (cd j) ∧ cd j < 128
theorem RPg.kept {G : aG} {p len : Nat} {cd : Nat → Nat} {σ σ' : aS} (h : RPg G p len cd σ) (hk : ∀ a, p ≤ a → a < p + 2 → σ'.2 a = σ.2 a) : RPg G p len cd σ' := by
  obtain ⟨f, h1, h2, h3⟩ := h
  exact ⟨f, (hk p (by omega) (by omega)).trans h1, (hk (p + 1) (by omega) (by omega)).trans h2, h3⟩
def flt (fit : Nat → Bool) : Nat → Nat → Nat
  | 0, k => k
  | n + 1, k => if fit k = true then flt fit n (k + 1) else k
def faultOf (fit : Nat → Bool) (len : Nat) : Nat := flt fit len 0
theorem flt_le (fit : Nat → Bool) : ∀ n k, flt fit n k ≤ n + k
  | 0, k => by simp [flt]
  | n + 1, k => by
    rw [flt]
    split
    · have := flt_le fit n (k + 1); omega
    · omega
theorem flt_all (fit : Nat → Bool) : ∀ n k, flt fit n k = n + k → ∀ j, k ≤ j → j < n + k → fit j = true
  | 0, k, _, j, h1, h2 => by omega
  | n + 1, k, h, j, h1, h2 => by
    rw [flt] at h
    split at h
    · rename_i hf
      by_cases e : j = k
      · subst e; exact hf
      · exact flt_all fit n (k + 1) (by omega) j (by omega) (by omega)
    · omega
def fitT (cd : Nat → Nat) (k : Nat) : Bool := decide (k < 29 ∧ (k % 5 = 0 → cd k = 97 ∨ cd k = 115 ∨ cd k = 116 ∨ cd k = 119 ∨ cd k = 100) ∧ (k % 5 = 1 → 48 ≤ cd k ∧ cd k < 51) ∧ (k % 5 = 2 → 49 ≤ cd k ∧ cd k ≤ 55) ∧ (k % 5 = 3 → 49 ≤ cd k ∧ cd k ≤ 53) ∧ (k % 5 = 4 → cd k = 44))
def fitR (nb : Nat) (cd : Nat → Nat) (k : Nat) : Bool := decide (k < 8 ∧ 48 ≤ cd k ∧ cd k < 48 + nb)
def isTwB (cd : Nat → Nat) (len : Nat) : Bool := decide (len % 5 = 4 ∧ 1 ≤ len / 5 ∧ faultOf (fitT cd) len = len)
def isRnB (nb : Nat) (cd : Nat → Nat) (len : Nat) : Bool := decide (0 < len ∧ faultOf (fitR nb cd) len = len)
def kindC (c : Nat) : Nat := if c = 115 then 1 else if c = 116 then 2 else if c = 119 then 3 else if c = 100 then 4 else 0
/-- the borrower that the page tells at a number: kind, trait, much, days -/
def borC (cd : Nat → Nat) (b : Nat) : Nat × Nat × Nat × Nat := (kindC (cd (b * 5)), cd (b * 5 + 1) - 48, cd (b * 5 + 2) - 48, cd (b * 5 + 3) - 48)
set_option maxRecDepth 100000 in
set_option maxHeartbeats 1000000 in
theorem ct_Pg_add (l : Launch) (G : aG) {p len : Nat} {cd : Nat → Nat} {σ : aS} (hp : RPg G p len cd σ) {c : Nat} (hc : c < 128) (hl : len < 30) : ACt l G yX2_add cX2_add 2 (none) 1 0 0 [.ref p, .int (nI c)] σ (vP (fun σ' => RPg G p (len + 1) (fun j => if j = len then c else cd j) σ' ∧ Fr p (p + 2) σ σ')) := by
  obtain ⟨f, h0, h1, hlen, hcd⟩ := hp
  refine ACt.intro (own := RX2) (nm := "add") mk_X2_add rfl rfl [some (.ref p), some (.int (nI c))] rfl (Nat.le_of_ble_eq_true rfl) (fun X hX hR => ?_)
  refine A_aload_n (pc := 0) rfl hX dX2_add_0 ?_
  refine A_getf (pc := 1) hX fl_X2_9_2 dX2_add_1 (by repeat (first | assumption | exact aSet_s | exact aNew_s | refine lk_n ?_ (by omega) | refine lk_f (by assumption) ?_ (by omega) | refine lk_w ?_ (by omega))) (by exact rfl) ?_
  refine A_aload_n (pc := 4) rfl hX dX2_add_4 ?_
  refine A_getf (pc := 5) hX fl_X2_15_2 dX2_add_5 (by repeat (first | assumption | exact aSet_s | exact aNew_s | refine lk_n ?_ (by omega) | refine lk_f (by assumption) ?_ (by omega) | refine lk_w ?_ (by omega))) (by exact rfl) ?_
  refine A_iload_n (pc := 8) rfl hX dX2_add_8 ?_
  refine A_S3v (pc := 9) hX mk_X11_put ls_X2_19 dX2_add_9 (ct_put l G (by repeat (first | assumption | exact aSet_s | exact aNew_s | refine lk_n ?_ (by omega) | refine lk_f (by assumption) ?_ (by omega) | refine lk_w ?_ (by omega))) (by decide)) rfl (Nat.le_of_ble_eq_true rfl) (Nat.le_of_ble_eq_true rfl) (Nat.le_of_ble_eq_true rfl) (Nat.le_of_ble_eq_true rfl) (Nat.le_of_ble_eq_true rfl) (fun σ9 h9 => ?_)
  obtain ⟨h9, hf9⟩ := h9
  refine A_aload_n (pc := 12) rfl hX dX2_add_12 ?_
  refine A_dup (pc := 13) rfl hX dX2_add_13 ?_
  refine A_getf (pc := 14) hX fl_X2_15_2 dX2_add_14 (by repeat (first | assumption | exact aSet_s | exact aNew_s | refine lk_n ?_ (by omega) | refine lk_f (by assumption) ?_ (by omega) | refine lk_w ?_ (by omega))) (by exact rfl) ?_
  refine A_iconst (pc := 17) (v := (nI 1)) (by decide) hX dX2_add_17 ?_
  refine A_iadd (pc := 18) hX dX2_add_18 ?_
  refine A_top (y := nI (len + 1)) (nI_succ len).symm ?_
  refine A_putf (pc := 19) (fs' := [_, _]) hX pl_X2_15_2 dX2_add_19 (by repeat (first | assumption | exact aSet_s | exact aNew_s | refine lk_n ?_ (by omega) | refine lk_f (by assumption) ?_ (by omega) | refine lk_w ?_ (by omega))) (by exact Nat.le_of_ble_eq_true rfl) (by exact rfl) rfl rfl ?_
  refine A_ret (pc := 22) hX hR dX2_add_22 ?_
  refine ⟨rfl, ⟨_, aSet_s, lk_n h9 (by omega), by omega, fun j hj => ?_⟩, (hf9.wd (by omega) (by omega)).set (by omega) (by omega)⟩
  rw [putS_nI (by omega) (by decide)]
  by_cases e : j = len
  · subst e; simp [upd, hc]
  · have := hcd j (by omega)
    simp [upd, e, this]
set_option maxRecDepth 100000 in
set_option maxHeartbeats 1000000 in
theorem ct_Pg_codeAt (l : Launch) (G : aG) {p len : Nat} {cd : Nat → Nat} {σ : aS} (hp : RPg G p len cd σ) {j : Nat} (hj : j < len) : ACt l G yX2_codeAt cX2_codeAt 2 (some .int) 1 0 0 [.ref p, .int (nI j)] σ (dP (some (.int (nI (cd j)))) σ) := by
  obtain ⟨f, h0, h1, hlen, hcd⟩ := hp
  refine ACt.intro (own := RX2) (nm := "codeAt") mk_X2_codeAt rfl rfl [some (.ref p), some (.int (nI j))] rfl (Nat.le_of_ble_eq_true rfl) (fun X hX hR => ?_)
  refine A_aload_n (pc := 0) rfl hX dX2_codeAt_0 ?_
  refine A_getf (pc := 1) hX fl_X2_9_2 dX2_codeAt_1 (by repeat (first | assumption | exact aSet_s | exact aNew_s | refine lk_n ?_ (by omega) | refine lk_f (by assumption) ?_ (by omega) | refine lk_w ?_ (by omega))) (by exact rfl) ?_
  refine A_iload_n (pc := 4) rfl hX dX2_codeAt_4 ?_
  refine A_S2d (pc := 5) hX mk_X11_at ls_X2_23 dX2_codeAt_5 (ct_at l G (by repeat (first | assumption | exact aSet_s | exact aNew_s | refine lk_n ?_ (by omega) | refine lk_f (by assumption) ?_ (by omega) | refine lk_w ?_ (by omega))) (by decide)) rfl (Nat.le_of_ble_eq_true rfl) (Nat.le_of_ble_eq_true rfl) (Nat.le_of_ble_eq_true rfl) (Nat.le_of_ble_eq_true rfl) (Nat.le_of_ble_eq_true rfl) ?_
  refine A_iret (pc := 8) hX hR dX2_codeAt_8 rfl rfl ?_
  exact ⟨by rw [atS_nI (by omega) (by decide), (hcd j hj).1], rfl⟩
set_option maxRecDepth 100000 in
set_option maxHeartbeats 1000000 in
theorem ct_Pg_digitAt (l : Launch) (G : aG) {p len : Nat} {cd : Nat → Nat} {σ : aS} (hp : RPg G p len cd σ) {j : Nat} (hj : j < len) : ACt l G yX2_digitAt cX2_digitAt 2 (some .int) 1 0 0 [.ref p, .int (nI j)] σ (dP (some (.int (nI (cd j) - nI 48))) σ) := by
  obtain ⟨f, h0, h1, hlen, hcd⟩ := hp
  refine ACt.intro (own := RX2) (nm := "digitAt") mk_X2_digitAt rfl rfl [some (.ref p), some (.int (nI j))] rfl (Nat.le_of_ble_eq_true rfl) (fun X hX hR => ?_)
  refine A_aload_n (pc := 0) rfl hX dX2_digitAt_0 ?_
  refine A_getf (pc := 1) hX fl_X2_9_2 dX2_digitAt_1 (by repeat (first | assumption | exact aSet_s | exact aNew_s | refine lk_n ?_ (by omega) | refine lk_f (by assumption) ?_ (by omega) | refine lk_w ?_ (by omega))) (by exact rfl) ?_
  refine A_iload_n (pc := 4) rfl hX dX2_digitAt_4 ?_
  refine A_S2d (pc := 5) hX mk_X11_at ls_X2_23 dX2_digitAt_5 (ct_at l G (by repeat (first | assumption | exact aSet_s | exact aNew_s | refine lk_n ?_ (by omega) | refine lk_f (by assumption) ?_ (by omega) | refine lk_w ?_ (by omega))) (by decide)) rfl (Nat.le_of_ble_eq_true rfl) (Nat.le_of_ble_eq_true rfl) (Nat.le_of_ble_eq_true rfl) (Nat.le_of_ble_eq_true rfl) (Nat.le_of_ble_eq_true rfl) ?_
  refine A_bipush (pc := 8) (v := (nI 48)) (by decide) hX dX2_digitAt_8 ?_
  refine A_isub (pc := 10) hX dX2_digitAt_10 ?_
  refine A_iret (pc := 11) hX hR dX2_digitAt_11 rfl rfl ?_
  exact ⟨by rw [atS_nI (by omega) (by decide), (hcd j hj).1], rfl⟩
set_option maxRecDepth 100000 in
set_option maxHeartbeats 1000000 in
theorem ct_fitsTown (l : Launch) (G : aG) {p len : Nat} {cd : Nat → Nat} {σ : aS} (hp : RPg G p len cd σ) {k : Nat} (hk : k < len) : ACt l G yX2_fitsTown cX2_fitsTown 3 (some (.boolean)) 1 0 0 [.ref p, .int (nI k)] σ (dP (some (.int (bI (fitT cd k)))) σ) := by
  obtain ⟨f, h0, h1, hlen, hcd⟩ := hp
  refine ACt.intro (own := RX2) (nm := "fitsTown") mk_X2_fitsTown rfl rfl [some (.ref p), some (.int (nI k)), none] rfl (Nat.le_of_ble_eq_true rfl) (fun X hX hR => ?_)
  refine A_iload_n (pc := 0) rfl hX dX2_fitsTown_0 ?_
  refine A_bipush (pc := 1) (v := (nI 29)) (by decide) hX dX2_fitsTown_1 ?_
  refine A_icmp_lt (pc := 3) 8 hX dX2_fitsTown_3 rfl (fun c3 => ?_) (fun c3 => ?_)
  · refine A_aload_n (pc := 8) rfl hX dX2_fitsTown_8 ?_
    refine A_getf (pc := 9) hX fl_X2_9_2 dX2_fitsTown_9 (by repeat (first | assumption | exact aSet_s | exact aNew_s | refine lk_n ?_ (by omega) | refine lk_f (by assumption) ?_ (by omega) | refine lk_w ?_ (by omega))) (by exact rfl) ?_
    refine A_iload_n (pc := 12) rfl hX dX2_fitsTown_12 ?_
    refine A_S2d (pc := 13) hX mk_X11_at ls_X2_23 dX2_fitsTown_13 (ct_at l G (by repeat (first | assumption | exact aSet_s | exact aNew_s | refine lk_n ?_ (by omega) | refine lk_f (by assumption) ?_ (by omega) | refine lk_w ?_ (by omega))) (by decide)) rfl (Nat.le_of_ble_eq_true rfl) (Nat.le_of_ble_eq_true rfl) (Nat.le_of_ble_eq_true rfl) (Nat.le_of_ble_eq_true rfl) (Nat.le_of_ble_eq_true rfl) ?_
    refine A_top (y := nI (cd k)) (by rw [atS_nI (by omega) (by decide), (hcd k hk).1]) ?_
    refine A_istore_n (pc := 16) (lv' := [_, _, _]) hX dX2_fitsTown_16 (Nat.le_of_ble_eq_true rfl) rfl rfl ?_
    refine A_iload_n (pc := 17) rfl hX dX2_fitsTown_17 ?_
    refine A_iconst (pc := 18) (v := (nI 5)) (by decide) hX dX2_fitsTown_18 ?_
    refine A_irem (pc := 19) (by decide) hX dX2_fitsTown_19 ?_
    refine A_top (y := nI (k % 5)) (pk_rem (by omega) (by decide) (by decide)) ?_
    rcases (show k % 5 = 0 ∨ k % 5 = 1 ∨ k % 5 = 2 ∨ k % 5 = 3 ∨ k % 5 = 4 by omega) with hm | hm | hm | hm | hm <;> rw [hm]
    · refine A_tabIn (pc := 20) (off := 32) 52 hX dX2_fitsTown_20 (by decide) (by decide) rfl rfl ?_
      refine A_iload_n (pc := 52) rfl hX dX2_fitsTown_52 ?_
      refine A_bipush (pc := 53) (v := (nI 97)) (by decide) hX dX2_fitsTown_53 ?_
      refine A_icmp_eq (pc := 55) 82 hX dX2_fitsTown_55 rfl (fun c55 => ?_) (fun c55 => ?_)
      · refine A_iconst (pc := 82) (v := (nI 1)) (by decide) hX dX2_fitsTown_82 ?_
        refine A_goto (pc := 83) 87 hX dX2_fitsTown_83 rfl ?_
        refine A_iret (pc := 87) hX hR dX2_fitsTown_87 rfl rfl ?_
        have hc := (hcd k hk).2
        simp (disch := omega) only [nI_ltI, nI_leI, nI_eq] at c3 c55
        exact bl_t (decide_eq_true (by omega))
      · refine A_iload_n (pc := 58) rfl hX dX2_fitsTown_58 ?_
        refine A_bipush (pc := 59) (v := (nI 115)) (by decide) hX dX2_fitsTown_59 ?_
        refine A_icmp_eq (pc := 61) 82 hX dX2_fitsTown_61 rfl (fun c61 => ?_) (fun c61 => ?_)
        · refine A_iconst (pc := 82) (v := (nI 1)) (by decide) hX dX2_fitsTown_82 ?_
          refine A_goto (pc := 83) 87 hX dX2_fitsTown_83 rfl ?_
          refine A_iret (pc := 87) hX hR dX2_fitsTown_87 rfl rfl ?_
          have hc := (hcd k hk).2
          simp (disch := omega) only [nI_ltI, nI_leI, nI_eq] at c3 c55 c61
          exact bl_t (decide_eq_true (by omega))
        · refine A_iload_n (pc := 64) rfl hX dX2_fitsTown_64 ?_
          refine A_bipush (pc := 65) (v := (nI 116)) (by decide) hX dX2_fitsTown_65 ?_
          refine A_icmp_eq (pc := 67) 82 hX dX2_fitsTown_67 rfl (fun c67 => ?_) (fun c67 => ?_)
          · refine A_iconst (pc := 82) (v := (nI 1)) (by decide) hX dX2_fitsTown_82 ?_
            refine A_goto (pc := 83) 87 hX dX2_fitsTown_83 rfl ?_
            refine A_iret (pc := 87) hX hR dX2_fitsTown_87 rfl rfl ?_
            have hc := (hcd k hk).2
            simp (disch := omega) only [nI_ltI, nI_leI, nI_eq] at c3 c55 c61 c67
            exact bl_t (decide_eq_true (by omega))
          · refine A_iload_n (pc := 70) rfl hX dX2_fitsTown_70 ?_
            refine A_bipush (pc := 71) (v := (nI 119)) (by decide) hX dX2_fitsTown_71 ?_
            refine A_icmp_eq (pc := 73) 82 hX dX2_fitsTown_73 rfl (fun c73 => ?_) (fun c73 => ?_)
            · refine A_iconst (pc := 82) (v := (nI 1)) (by decide) hX dX2_fitsTown_82 ?_
              refine A_goto (pc := 83) 87 hX dX2_fitsTown_83 rfl ?_
              refine A_iret (pc := 87) hX hR dX2_fitsTown_87 rfl rfl ?_
              have hc := (hcd k hk).2
              simp (disch := omega) only [nI_ltI, nI_leI, nI_eq] at c3 c55 c61 c67 c73
              exact bl_t (decide_eq_true (by omega))
            · refine A_iload_n (pc := 76) rfl hX dX2_fitsTown_76 ?_
              refine A_bipush (pc := 77) (v := (nI 100)) (by decide) hX dX2_fitsTown_77 ?_
              refine A_icmp_ne (pc := 79) 86 hX dX2_fitsTown_79 rfl (fun c79 => ?_) (fun c79 => ?_)
              · refine A_iconst (pc := 86) (v := (nI 0)) (by decide) hX dX2_fitsTown_86 ?_
                refine A_iret (pc := 87) hX hR dX2_fitsTown_87 rfl rfl ?_
                have hc := (hcd k hk).2
                simp (disch := omega) only [nI_ltI, nI_leI, nI_eq] at c3 c55 c61 c67 c73 c79
                exact bl_f (decide_eq_false (by omega))
              · refine A_iconst (pc := 82) (v := (nI 1)) (by decide) hX dX2_fitsTown_82 ?_
                refine A_goto (pc := 83) 87 hX dX2_fitsTown_83 rfl ?_
                refine A_iret (pc := 87) hX hR dX2_fitsTown_87 rfl rfl ?_
                have hc := (hcd k hk).2
                simp (disch := omega) only [nI_ltI, nI_leI, nI_eq] at c3 c55 c61 c67 c73 c79
                exact bl_t (decide_eq_true (by omega))
    · refine A_tabIn (pc := 20) (off := 68) 88 hX dX2_fitsTown_20 (by decide) (by decide) rfl rfl ?_
      refine A_iload_n (pc := 88) rfl hX dX2_fitsTown_88 ?_
      refine A_bipush (pc := 89) (v := (nI 48)) (by decide) hX dX2_fitsTown_89 ?_
      refine A_icmp_lt (pc := 91) 104 hX dX2_fitsTown_91 rfl (fun c91 => ?_) (fun c91 => ?_)
      · refine A_iconst (pc := 104) (v := (nI 0)) (by decide) hX dX2_fitsTown_104 ?_
        refine A_iret (pc := 105) hX hR dX2_fitsTown_105 rfl rfl ?_
        have hc := (hcd k hk).2
        simp (disch := omega) only [nI_ltI, nI_leI, nI_eq] at c3 c91
        exact bl_f (decide_eq_false (by omega))
      · refine A_iload_n (pc := 94) rfl hX dX2_fitsTown_94 ?_
        refine A_bipush (pc := 95) (v := (nI 51)) (by decide) hX dX2_fitsTown_95 ?_
        refine A_icmp_ge (pc := 97) 104 hX dX2_fitsTown_97 rfl (fun c97 => ?_) (fun c97 => ?_)
        · refine A_iconst (pc := 104) (v := (nI 0)) (by decide) hX dX2_fitsTown_104 ?_
          refine A_iret (pc := 105) hX hR dX2_fitsTown_105 rfl rfl ?_
          have hc := (hcd k hk).2
          simp (disch := omega) only [nI_ltI, nI_leI, nI_eq] at c3 c91 c97
          exact bl_f (decide_eq_false (by omega))
        · refine A_iconst (pc := 100) (v := (nI 1)) (by decide) hX dX2_fitsTown_100 ?_
          refine A_goto (pc := 101) 105 hX dX2_fitsTown_101 rfl ?_
          refine A_iret (pc := 105) hX hR dX2_fitsTown_105 rfl rfl ?_
          have hc := (hcd k hk).2
          simp (disch := omega) only [nI_ltI, nI_leI, nI_eq] at c3 c91 c97
          exact bl_t (decide_eq_true (by omega))
    · refine A_tabIn (pc := 20) (off := 86) 106 hX dX2_fitsTown_20 (by decide) (by decide) rfl rfl ?_
      refine A_iload_n (pc := 106) rfl hX dX2_fitsTown_106 ?_
      refine A_bipush (pc := 107) (v := (nI 49)) (by decide) hX dX2_fitsTown_107 ?_
      refine A_icmp_lt (pc := 109) 122 hX dX2_fitsTown_109 rfl (fun c109 => ?_) (fun c109 => ?_)
      · refine A_iconst (pc := 122) (v := (nI 0)) (by decide) hX dX2_fitsTown_122 ?_
        refine A_iret (pc := 123) hX hR dX2_fitsTown_123 rfl rfl ?_
        have hc := (hcd k hk).2
        simp (disch := omega) only [nI_ltI, nI_leI, nI_eq] at c3 c109
        exact bl_f (decide_eq_false (by omega))
      · refine A_iload_n (pc := 112) rfl hX dX2_fitsTown_112 ?_
        refine A_bipush (pc := 113) (v := (nI 55)) (by decide) hX dX2_fitsTown_113 ?_
        refine A_icmp_gt (pc := 115) 122 hX dX2_fitsTown_115 rfl (fun c115 => ?_) (fun c115 => ?_)
        · refine A_iconst (pc := 122) (v := (nI 0)) (by decide) hX dX2_fitsTown_122 ?_
          refine A_iret (pc := 123) hX hR dX2_fitsTown_123 rfl rfl ?_
          have hc := (hcd k hk).2
          simp (disch := omega) only [nI_ltI, nI_leI, nI_eq] at c3 c109 c115
          exact bl_f (decide_eq_false (by omega))
        · refine A_iconst (pc := 118) (v := (nI 1)) (by decide) hX dX2_fitsTown_118 ?_
          refine A_goto (pc := 119) 123 hX dX2_fitsTown_119 rfl ?_
          refine A_iret (pc := 123) hX hR dX2_fitsTown_123 rfl rfl ?_
          have hc := (hcd k hk).2
          simp (disch := omega) only [nI_ltI, nI_leI, nI_eq] at c3 c109 c115
          exact bl_t (decide_eq_true (by omega))
    · refine A_tabIn (pc := 20) (off := 104) 124 hX dX2_fitsTown_20 (by decide) (by decide) rfl rfl ?_
      refine A_iload_n (pc := 124) rfl hX dX2_fitsTown_124 ?_
      refine A_bipush (pc := 125) (v := (nI 49)) (by decide) hX dX2_fitsTown_125 ?_
      refine A_icmp_lt (pc := 127) 140 hX dX2_fitsTown_127 rfl (fun c127 => ?_) (fun c127 => ?_)
      · refine A_iconst (pc := 140) (v := (nI 0)) (by decide) hX dX2_fitsTown_140 ?_
        refine A_iret (pc := 141) hX hR dX2_fitsTown_141 rfl rfl ?_
        have hc := (hcd k hk).2
        simp (disch := omega) only [nI_ltI, nI_leI, nI_eq] at c3 c127
        exact bl_f (decide_eq_false (by omega))
      · refine A_iload_n (pc := 130) rfl hX dX2_fitsTown_130 ?_
        refine A_bipush (pc := 131) (v := (nI 53)) (by decide) hX dX2_fitsTown_131 ?_
        refine A_icmp_gt (pc := 133) 140 hX dX2_fitsTown_133 rfl (fun c133 => ?_) (fun c133 => ?_)
        · refine A_iconst (pc := 140) (v := (nI 0)) (by decide) hX dX2_fitsTown_140 ?_
          refine A_iret (pc := 141) hX hR dX2_fitsTown_141 rfl rfl ?_
          have hc := (hcd k hk).2
          simp (disch := omega) only [nI_ltI, nI_leI, nI_eq] at c3 c127 c133
          exact bl_f (decide_eq_false (by omega))
        · refine A_iconst (pc := 136) (v := (nI 1)) (by decide) hX dX2_fitsTown_136 ?_
          refine A_goto (pc := 137) 141 hX dX2_fitsTown_137 rfl ?_
          refine A_iret (pc := 141) hX hR dX2_fitsTown_141 rfl rfl ?_
          have hc := (hcd k hk).2
          simp (disch := omega) only [nI_ltI, nI_leI, nI_eq] at c3 c127 c133
          exact bl_t (decide_eq_true (by omega))
    · refine A_tabOut (pc := 20) 142 hX dX2_fitsTown_20 (by decide) rfl ?_
      refine A_iload_n (pc := 142) rfl hX dX2_fitsTown_142 ?_
      refine A_bipush (pc := 143) (v := (nI 44)) (by decide) hX dX2_fitsTown_143 ?_
      refine A_icmp_ne (pc := 145) 152 hX dX2_fitsTown_145 rfl (fun c145 => ?_) (fun c145 => ?_)
      · refine A_iconst (pc := 152) (v := (nI 0)) (by decide) hX dX2_fitsTown_152 ?_
        refine A_iret (pc := 153) hX hR dX2_fitsTown_153 rfl rfl ?_
        have hc := (hcd k hk).2
        simp (disch := omega) only [nI_ltI, nI_leI, nI_eq] at c3 c145
        exact bl_f (decide_eq_false (by omega))
      · refine A_iconst (pc := 148) (v := (nI 1)) (by decide) hX dX2_fitsTown_148 ?_
        refine A_goto (pc := 149) 153 hX dX2_fitsTown_149 rfl ?_
        refine A_iret (pc := 153) hX hR dX2_fitsTown_153 rfl rfl ?_
        have hc := (hcd k hk).2
        simp (disch := omega) only [nI_ltI, nI_leI, nI_eq] at c3 c145
        exact bl_t (decide_eq_true (by omega))
  · refine A_iconst (pc := 6) (v := (nI 0)) (by decide) hX dX2_fitsTown_6 ?_
    refine A_iret (pc := 7) hX hR dX2_fitsTown_7 rfl rfl ?_
    have hc := (hcd k hk).2
    simp (disch := omega) only [nI_ltI, nI_leI, nI_eq] at c3
    exact bl_f (decide_eq_false (by omega))
set_option maxRecDepth 100000 in
set_option maxHeartbeats 1000000 in
theorem ct_faultOfTown (l : Launch) (G : aG) {p len : Nat} {cd : Nat → Nat} {σ : aS} (hp : RPg G p len cd σ) : ACt l G yX2_faultOfTown cX2_faultOfTown 2 (some .int) 2 0 0 [.ref p] σ (dP (some (.int (nI (faultOf (fitT cd) len)))) σ) := by
  have hp1 := hp
  obtain ⟨f, h0, h1, hlen, hcd⟩ := hp
  refine ACt.intro (own := RX2) (nm := "faultOfTown") mk_X2_faultOfTown rfl rfl [some (.ref p), none] rfl (Nat.le_of_ble_eq_true rfl) (fun X hX hR => ?_)
  refine A_iconst (pc := 0) (v := (nI 0)) (by decide) hX dX2_faultOfTown_0 ?_
  refine A_istore_n (pc := 1) (lv' := [_, _]) hX dX2_faultOfTown_1 (Nat.le_of_ble_eq_true rfl) rfl rfl ?_
  suffices hl : ∀ (m i : Nat), i ≤ len → len - i = m → flt (fitT cd) m i = faultOf (fitT cd) len → AA G X 0 0 2 [some (.ref p), some (.int (nI i))] [] σ from hl len 0 (Nat.zero_le _) (by omega) rfl
  intro m
  induction m with
  | zero =>
    intro i hi hm hf
    refine A_iload_n (pc := 2) rfl hX dX2_faultOfTown_2 ?_
    refine A_aload_n (pc := 3) rfl hX dX2_faultOfTown_3 ?_
    refine A_getf (pc := 4) hX fl_X2_15_2 dX2_faultOfTown_4 (by repeat (first | assumption | exact aSet_s | exact aNew_s | refine lk_n ?_ (by omega) | refine lk_f (by assumption) ?_ (by omega) | refine lk_w ?_ (by omega))) (by exact rfl) ?_
    refine A_icmp_ge (pc := 7) 26 hX dX2_faultOfTown_7 rfl (fun c7 => ?_) (fun c7 => ?_)
    · refine A_aload_n (pc := 26) rfl hX dX2_faultOfTown_26 ?_
      refine A_getf (pc := 27) hX fl_X2_15_2 dX2_faultOfTown_27 (by repeat (first | assumption | exact aSet_s | exact aNew_s | refine lk_n ?_ (by omega) | refine lk_f (by assumption) ?_ (by omega) | refine lk_w ?_ (by omega))) (by exact rfl) ?_
      refine A_iret (pc := 30) hX hR dX2_faultOfTown_30 rfl rfl ?_
      have e : i = len := by omega
      subst e
      exact ⟨by rw [← hf]; rfl, rfl⟩
    · exact absurd (nI_le (by omega) (by omega)) c7
  | succ m ih =>
    intro i hi hm hf
    have hlt : i < len := by omega
    rw [flt] at hf
    refine A_iload_n (pc := 2) rfl hX dX2_faultOfTown_2 ?_
    refine A_aload_n (pc := 3) rfl hX dX2_faultOfTown_3 ?_
    refine A_getf (pc := 4) hX fl_X2_15_2 dX2_faultOfTown_4 (by repeat (first | assumption | exact aSet_s | exact aNew_s | refine lk_n ?_ (by omega) | refine lk_f (by assumption) ?_ (by omega) | refine lk_w ?_ (by omega))) (by exact rfl) ?_
    refine A_icmp_ge (pc := 7) 26 hX dX2_faultOfTown_7 rfl (fun c7 => ?_) (fun c7 => ?_)
    · exact absurd c7 (nI_ge hlt (by omega))
    · refine A_aload_n (pc := 10) rfl hX dX2_faultOfTown_10 ?_
      refine A_iload_n (pc := 11) rfl hX dX2_faultOfTown_11 ?_
      refine A_V1d (pc := 12) hX mk_X2_fitsTown lv_X2_27 dX2_faultOfTown_12 (by repeat (first | assumption | exact aSet_s | exact aNew_s | refine lk_n ?_ (by omega) | refine lk_f (by assumption) ?_ (by omega) | refine lk_w ?_ (by omega))) (ct_fitsTown l G hp1 hlt) rfl (Nat.le_of_ble_eq_true rfl) (Nat.le_of_ble_eq_true rfl) (Nat.le_of_ble_eq_true rfl) (Nat.le_of_ble_eq_true rfl) (Nat.le_of_ble_eq_true rfl) ?_
      refine A_if_ne (pc := 15) 20 hX dX2_faultOfTown_15 rfl (fun c15 => ?_) (fun c15 => ?_)
      · refine A_iinc (pc := 20) (v := (nI (i + 1))) (lv' := [_, _]) hX dX2_faultOfTown_20 rfl (nI_succ i).symm rfl rfl ?_
        refine A_goto (pc := 23) 2 hX dX2_faultOfTown_23 rfl ?_
        exact ih (i + 1) (by omega) (by omega) (by rw [if_pos (bI_ne c15)] at hf; exact hf)
      · refine A_iload_n (pc := 18) rfl hX dX2_faultOfTown_18 ?_
        refine A_iret (pc := 19) hX hR dX2_faultOfTown_19 rfl rfl ?_
        exact ⟨by rw [if_neg (by rw [bI_eq c15]; decide)] at hf; rw [← hf], rfl⟩
theorem i_subneg {a b : Nat} (ha : a < 2 ^ 20) (hb : b < 2 ^ 20) : nI a - nI b < 0 ↔ a < b := by
  rw [Int32.lt_iff_toInt_lt, pk_sub_toInt (by omega) (by omega), Int32.toInt_zero]
  omega
theorem i_sublt {a b c : Nat} (ha : a < 2 ^ 20) (hb : b < 2 ^ 20) (hc : c < 2 ^ 20) : nI a - nI b < nI c ↔ a < b + c := by
  rw [Int32.lt_iff_toInt_lt, pk_sub_toInt (by omega) (by omega), nI_toInt (by omega)]
  omega
set_option maxRecDepth 100000 in
set_option maxHeartbeats 1000000 in
theorem ct_faultOfRound (l : Launch) (G : aG) {p len : Nat} {cd : Nat → Nat} {σ : aS} (hp : RPg G p len cd σ) {nb : Nat} (hnb : nb ≤ 6) : ACt l G yX2_faultOfRound cX2_faultOfRound 4 (some .int) 2 0 0 [.ref p, .int (nI nb)] σ (dP (some (.int (nI (faultOf (fitR nb cd) len)))) σ) := by
  have hp1 := hp
  obtain ⟨f, h0, h1, hlen, hcd⟩ := hp
  refine ACt.intro (own := RX2) (nm := "faultOfRound") mk_X2_faultOfRound rfl rfl [some (.ref p), some (.int (nI nb)), none, none] rfl (Nat.le_of_ble_eq_true rfl) (fun X hX hR => ?_)
  refine A_iconst (pc := 0) (v := (nI 0)) (by decide) hX dX2_faultOfRound_0 ?_
  refine A_istore_n (pc := 1) (lv' := [_, _, _, _]) hX dX2_faultOfRound_1 (Nat.le_of_ble_eq_true rfl) rfl rfl ?_
  suffices hl : ∀ (m i : Nat) (v3 : Option Value), i ≤ len → len - i = m → flt (fitR nb cd) m i = faultOf (fitR nb cd) len → AA G X 0 0 2 [some (.ref p), some (.int (nI nb)), some (.int (nI i)), v3] [] σ from hl len 0 none (Nat.zero_le _) (by omega) rfl
  intro m
  induction m with
  | zero =>
    intro i v3 hi hm hf
    refine A_iload_n (pc := 2) rfl hX dX2_faultOfRound_2 ?_
    refine A_aload_n (pc := 3) rfl hX dX2_faultOfRound_3 ?_
    refine A_getf (pc := 4) hX fl_X2_15_2 dX2_faultOfRound_4 (by repeat (first | assumption | exact aSet_s | exact aNew_s | refine lk_n ?_ (by omega) | refine lk_f (by assumption) ?_ (by omega) | refine lk_w ?_ (by omega))) (by exact rfl) ?_
    refine A_icmp_ge (pc := 7) 39 hX dX2_faultOfRound_7 rfl (fun c7 => ?_) (fun c7 => ?_)
    · refine A_aload_n (pc := 39) rfl hX dX2_faultOfRound_39 ?_
      refine A_getf (pc := 40) hX fl_X2_15_2 dX2_faultOfRound_40 (by repeat (first | assumption | exact aSet_s | exact aNew_s | refine lk_n ?_ (by omega) | refine lk_f (by assumption) ?_ (by omega) | refine lk_w ?_ (by omega))) (by exact rfl) ?_
      refine A_iret (pc := 43) hX hR dX2_faultOfRound_43 rfl rfl ?_
      have e : i = len := by omega
      subst e
      exact ⟨by rw [← hf]; rfl, rfl⟩
    · exact absurd (nI_le (by omega) (by omega)) c7
  | succ m ih =>
    intro i v3 hi hm hf
    have hlt : i < len := by omega
    have hc := (hcd i hlt).2
    rw [flt] at hf
    refine A_iload_n (pc := 2) rfl hX dX2_faultOfRound_2 ?_
    refine A_aload_n (pc := 3) rfl hX dX2_faultOfRound_3 ?_
    refine A_getf (pc := 4) hX fl_X2_15_2 dX2_faultOfRound_4 (by repeat (first | assumption | exact aSet_s | exact aNew_s | refine lk_n ?_ (by omega) | refine lk_f (by assumption) ?_ (by omega) | refine lk_w ?_ (by omega))) (by exact rfl) ?_
    refine A_icmp_ge (pc := 7) 39 hX dX2_faultOfRound_7 rfl (fun c7 => ?_) (fun c7 => ?_)
    · exact absurd c7 (nI_ge hlt (by omega))
    · refine A_aload_n (pc := 10) rfl hX dX2_faultOfRound_10 ?_
      refine A_iload_n (pc := 11) rfl hX dX2_faultOfRound_11 ?_
      refine A_V1d (pc := 12) hX mk_X2_digitAt lv_X2_31 dX2_faultOfRound_12 (by repeat (first | assumption | exact aSet_s | exact aNew_s | refine lk_n ?_ (by omega) | refine lk_f (by assumption) ?_ (by omega) | refine lk_w ?_ (by omega))) (ct_Pg_digitAt l G hp1 hlt) rfl (Nat.le_of_ble_eq_true rfl) (Nat.le_of_ble_eq_true rfl) (Nat.le_of_ble_eq_true rfl) (Nat.le_of_ble_eq_true rfl) (Nat.le_of_ble_eq_true rfl) ?_
      refine A_istore_n (pc := 15) (lv' := [_, _, _, _]) hX dX2_faultOfRound_15 (Nat.le_of_ble_eq_true rfl) rfl rfl ?_
      refine A_iload_n (pc := 16) rfl hX dX2_faultOfRound_16 ?_
      refine A_bipush (pc := 17) (v := (nI 8)) (by decide) hX dX2_faultOfRound_17 ?_
      refine A_icmp_ge (pc := 19) 31 hX dX2_faultOfRound_19 rfl (fun c19 => ?_) (fun c19 => ?_)
      · refine A_iload_n (pc := 31) rfl hX dX2_faultOfRound_31 ?_
        refine A_iret (pc := 32) hX hR dX2_faultOfRound_32 rfl rfl ?_
        simp (disch := omega) only [nI_ltI, nI_leI, nI_eq] at c19
        exact ⟨by rw [if_neg (by rw [fitR, decide_eq_false (by omega)]; decide)] at hf; rw [← hf], rfl⟩
      · refine A_iload_n (pc := 22) rfl hX dX2_faultOfRound_22 ?_
        refine A_if_lt (pc := 23) 31 hX dX2_faultOfRound_23 rfl (fun c23 => ?_) (fun c23 => ?_)
        · refine A_iload_n (pc := 31) rfl hX dX2_faultOfRound_31 ?_
          refine A_iret (pc := 32) hX hR dX2_faultOfRound_32 rfl rfl ?_
          simp (disch := omega) only [nI_ltI, nI_leI, nI_eq] at c19
          rw [i_subneg (by omega) (by omega)] at c23
          exact ⟨by rw [if_neg (by rw [fitR, decide_eq_false (by omega)]; decide)] at hf; rw [← hf], rfl⟩
        · refine A_iload_n (pc := 26) rfl hX dX2_faultOfRound_26 ?_
          refine A_iload_n (pc := 27) rfl hX dX2_faultOfRound_27 ?_
          refine A_icmp_lt (pc := 28) 33 hX dX2_faultOfRound_28 rfl (fun c28 => ?_) (fun c28 => ?_)
          · refine A_iinc (pc := 33) (v := (nI (i + 1))) (lv' := [_, _, _, _]) hX dX2_faultOfRound_33 rfl (nI_succ i).symm rfl rfl ?_
            refine A_goto (pc := 36) 2 hX dX2_faultOfRound_36 rfl ?_
            simp (disch := omega) only [nI_ltI, nI_leI, nI_eq] at c19
            rw [i_subneg (by omega) (by omega)] at c23
            rw [i_sublt (by omega) (by omega) (by omega)] at c28
            exact ih (i + 1) _ (by omega) (by omega) (by rw [if_pos (show fitR nb cd i = true from decide_eq_true (by omega))] at hf; exact hf)
          · refine A_iload_n (pc := 31) rfl hX dX2_faultOfRound_31 ?_
            refine A_iret (pc := 32) hX hR dX2_faultOfRound_32 rfl rfl ?_
            simp (disch := omega) only [nI_ltI, nI_leI, nI_eq] at c19
            rw [i_subneg (by omega) (by omega)] at c23
            rw [i_sublt (by omega) (by omega) (by omega)] at c28
            exact ⟨by rw [if_neg (by rw [fitR, decide_eq_false (by omega)]; decide)] at hf; rw [← hf], rfl⟩
set_option maxRecDepth 100000 in
set_option maxHeartbeats 1000000 in
theorem ct_isTown (l : Launch) (G : aG) {p len : Nat} {cd : Nat → Nat} {σ : aS} (hp : RPg G p len cd σ) : ACt l G yX2_isTown cX2_isTown 2 (some (.boolean)) 3 0 0 [.ref p] σ (dP (some (.int (bI (isTwB cd len)))) σ) := by
  have hp1 := hp
  obtain ⟨f, h0, h1, hlen, hcd⟩ := hp
  have hfl := flt_le (fitT cd) len 0
  refine ACt.intro (own := RX2) (nm := "isTown") mk_X2_isTown rfl rfl [some (.ref p), none] rfl (Nat.le_of_ble_eq_true rfl) (fun X hX hR => ?_)
  refine A_aload_n (pc := 0) rfl hX dX2_isTown_0 ?_
  refine A_getf (pc := 1) hX fl_X2_15_2 dX2_isTown_1 (by repeat (first | assumption | exact aSet_s | exact aNew_s | refine lk_n ?_ (by omega) | refine lk_f (by assumption) ?_ (by omega) | refine lk_w ?_ (by omega))) (by exact rfl) ?_
  refine A_iconst (pc := 4) (v := (nI 5)) (by decide) hX dX2_isTown_4 ?_
  refine A_irem (pc := 5) (by decide) hX dX2_isTown_5 ?_
  refine A_top (y := nI (len % 5)) (pk_rem (by omega) (by decide) (by decide)) ?_
  refine A_iconst (pc := 6) (v := (nI 4)) (by decide) hX dX2_isTown_6 ?_
  refine A_icmp_ne (pc := 7) 14 hX dX2_isTown_7 rfl (fun c7 => ?_) (fun c7 => ?_)
  · refine A_iconst (pc := 14) (v := (nI 0)) (by decide) hX dX2_isTown_14 ?_
    refine A_istore_n (pc := 15) (lv' := [_, _]) hX dX2_isTown_15 (Nat.le_of_ble_eq_true rfl) rfl rfl ?_
    refine A_iload_n (pc := 16) rfl hX dX2_isTown_16 ?_
    refine A_if_eq (pc := 17) 47 hX dX2_isTown_17 rfl (fun c17 => ?_) (fun c17 => ?_)
    · refine A_iconst (pc := 47) (v := (nI 0)) (by decide) hX dX2_isTown_47 ?_
      refine A_iret (pc := 48) hX hR dX2_isTown_48 rfl rfl ?_
      first
        | exact absurd c17 (by decide)
        | ((try simp only [faultOf] at *)
           (try simp (disch := omega) only [nI_ltI, nI_leI, nI_eq] at *)
           first
             | exact bl_t (decide_eq_true (by simp only [faultOf]; omega))
             | exact bl_f (decide_eq_false (by simp only [faultOf]; omega)))
    · refine A_aload_n (pc := 20) rfl hX dX2_isTown_20 ?_
      refine A_getf (pc := 21) hX fl_X2_15_2 dX2_isTown_21 (by repeat (first | assumption | exact aSet_s | exact aNew_s | refine lk_n ?_ (by omega) | refine lk_f (by assumption) ?_ (by omega) | refine lk_w ?_ (by omega))) (by exact rfl) ?_
      refine A_iconst (pc := 24) (v := (nI 5)) (by decide) hX dX2_isTown_24 ?_
      refine A_idiv (pc := 25) (by decide) hX dX2_isTown_25 ?_
      refine A_top (y := nI (len / 5)) (pk_div (by omega) (by decide) (by decide)) ?_
      refine A_iconst (pc := 26) (v := (nI 1)) (by decide) hX dX2_isTown_26 ?_
      refine A_iadd (pc := 27) hX dX2_isTown_27 ?_
      refine A_top (y := nI (len / 5 + 1)) (nI_succ _).symm ?_
      refine A_iconst (pc := 28) (v := (nI 2)) (by decide) hX dX2_isTown_28 ?_
      refine A_icmp_lt (pc := 29) 47 hX dX2_isTown_29 rfl (fun c29 => ?_) (fun c29 => ?_)
      · refine A_iconst (pc := 47) (v := (nI 0)) (by decide) hX dX2_isTown_47 ?_
        refine A_iret (pc := 48) hX hR dX2_isTown_48 rfl rfl ?_
        first
          | exact absurd c17 (by decide)
          | ((try simp only [faultOf] at *)
             (try simp (disch := omega) only [nI_ltI, nI_leI, nI_eq] at *)
             first
               | exact bl_t (decide_eq_true (by simp only [faultOf]; omega))
               | exact bl_f (decide_eq_false (by simp only [faultOf]; omega)))
      · refine A_aload_n (pc := 32) rfl hX dX2_isTown_32 ?_
        refine A_V0d (pc := 33) hX mk_X2_faultOfTown lv_X2_35 dX2_isTown_33 (by repeat (first | assumption | exact aSet_s | exact aNew_s | refine lk_n ?_ (by omega) | refine lk_f (by assumption) ?_ (by omega) | refine lk_w ?_ (by omega))) (ct_faultOfTown l G hp1) rfl (Nat.le_of_ble_eq_true rfl) (Nat.le_of_ble_eq_true rfl) (Nat.le_of_ble_eq_true rfl) (Nat.le_of_ble_eq_true rfl) (Nat.le_of_ble_eq_true rfl) ?_
        refine A_aload_n (pc := 36) rfl hX dX2_isTown_36 ?_
        refine A_getf (pc := 37) hX fl_X2_15_2 dX2_isTown_37 (by repeat (first | assumption | exact aSet_s | exact aNew_s | refine lk_n ?_ (by omega) | refine lk_f (by assumption) ?_ (by omega) | refine lk_w ?_ (by omega))) (by exact rfl) ?_
        refine A_icmp_ne (pc := 40) 47 hX dX2_isTown_40 rfl (fun c40 => ?_) (fun c40 => ?_)
        · refine A_iconst (pc := 47) (v := (nI 0)) (by decide) hX dX2_isTown_47 ?_
          refine A_iret (pc := 48) hX hR dX2_isTown_48 rfl rfl ?_
          first
            | exact absurd c17 (by decide)
            | ((try simp only [faultOf] at *)
               (try simp (disch := omega) only [nI_ltI, nI_leI, nI_eq] at *)
               first
                 | exact bl_t (decide_eq_true (by simp only [faultOf]; omega))
                 | exact bl_f (decide_eq_false (by simp only [faultOf]; omega)))
        · refine A_iconst (pc := 43) (v := (nI 1)) (by decide) hX dX2_isTown_43 ?_
          refine A_goto (pc := 44) 48 hX dX2_isTown_44 rfl ?_
          refine A_iret (pc := 48) hX hR dX2_isTown_48 rfl rfl ?_
          first
            | exact absurd c17 (by decide)
            | ((try simp only [faultOf] at *)
               (try simp (disch := omega) only [nI_ltI, nI_leI, nI_eq] at *)
               first
                 | exact bl_t (decide_eq_true (by simp only [faultOf]; omega))
                 | exact bl_f (decide_eq_false (by simp only [faultOf]; omega)))
  · refine A_iconst (pc := 10) (v := (nI 1)) (by decide) hX dX2_isTown_10 ?_
    refine A_goto (pc := 11) 15 hX dX2_isTown_11 rfl ?_
    refine A_istore_n (pc := 15) (lv' := [_, _]) hX dX2_isTown_15 (Nat.le_of_ble_eq_true rfl) rfl rfl ?_
    refine A_iload_n (pc := 16) rfl hX dX2_isTown_16 ?_
    refine A_if_eq (pc := 17) 47 hX dX2_isTown_17 rfl (fun c17 => ?_) (fun c17 => ?_)
    · refine A_iconst (pc := 47) (v := (nI 0)) (by decide) hX dX2_isTown_47 ?_
      refine A_iret (pc := 48) hX hR dX2_isTown_48 rfl rfl ?_
      first
        | exact absurd c17 (by decide)
        | ((try simp only [faultOf] at *)
           (try simp (disch := omega) only [nI_ltI, nI_leI, nI_eq] at *)
           first
             | exact bl_t (decide_eq_true (by simp only [faultOf]; omega))
             | exact bl_f (decide_eq_false (by simp only [faultOf]; omega)))
    · refine A_aload_n (pc := 20) rfl hX dX2_isTown_20 ?_
      refine A_getf (pc := 21) hX fl_X2_15_2 dX2_isTown_21 (by repeat (first | assumption | exact aSet_s | exact aNew_s | refine lk_n ?_ (by omega) | refine lk_f (by assumption) ?_ (by omega) | refine lk_w ?_ (by omega))) (by exact rfl) ?_
      refine A_iconst (pc := 24) (v := (nI 5)) (by decide) hX dX2_isTown_24 ?_
      refine A_idiv (pc := 25) (by decide) hX dX2_isTown_25 ?_
      refine A_top (y := nI (len / 5)) (pk_div (by omega) (by decide) (by decide)) ?_
      refine A_iconst (pc := 26) (v := (nI 1)) (by decide) hX dX2_isTown_26 ?_
      refine A_iadd (pc := 27) hX dX2_isTown_27 ?_
      refine A_top (y := nI (len / 5 + 1)) (nI_succ _).symm ?_
      refine A_iconst (pc := 28) (v := (nI 2)) (by decide) hX dX2_isTown_28 ?_
      refine A_icmp_lt (pc := 29) 47 hX dX2_isTown_29 rfl (fun c29 => ?_) (fun c29 => ?_)
      · refine A_iconst (pc := 47) (v := (nI 0)) (by decide) hX dX2_isTown_47 ?_
        refine A_iret (pc := 48) hX hR dX2_isTown_48 rfl rfl ?_
        first
          | exact absurd c17 (by decide)
          | ((try simp only [faultOf] at *)
             (try simp (disch := omega) only [nI_ltI, nI_leI, nI_eq] at *)
             first
               | exact bl_t (decide_eq_true (by simp only [faultOf]; omega))
               | exact bl_f (decide_eq_false (by simp only [faultOf]; omega)))
      · refine A_aload_n (pc := 32) rfl hX dX2_isTown_32 ?_
        refine A_V0d (pc := 33) hX mk_X2_faultOfTown lv_X2_35 dX2_isTown_33 (by repeat (first | assumption | exact aSet_s | exact aNew_s | refine lk_n ?_ (by omega) | refine lk_f (by assumption) ?_ (by omega) | refine lk_w ?_ (by omega))) (ct_faultOfTown l G hp1) rfl (Nat.le_of_ble_eq_true rfl) (Nat.le_of_ble_eq_true rfl) (Nat.le_of_ble_eq_true rfl) (Nat.le_of_ble_eq_true rfl) (Nat.le_of_ble_eq_true rfl) ?_
        refine A_aload_n (pc := 36) rfl hX dX2_isTown_36 ?_
        refine A_getf (pc := 37) hX fl_X2_15_2 dX2_isTown_37 (by repeat (first | assumption | exact aSet_s | exact aNew_s | refine lk_n ?_ (by omega) | refine lk_f (by assumption) ?_ (by omega) | refine lk_w ?_ (by omega))) (by exact rfl) ?_
        refine A_icmp_ne (pc := 40) 47 hX dX2_isTown_40 rfl (fun c40 => ?_) (fun c40 => ?_)
        · refine A_iconst (pc := 47) (v := (nI 0)) (by decide) hX dX2_isTown_47 ?_
          refine A_iret (pc := 48) hX hR dX2_isTown_48 rfl rfl ?_
          first
            | exact absurd c17 (by decide)
            | ((try simp only [faultOf] at *)
               (try simp (disch := omega) only [nI_ltI, nI_leI, nI_eq] at *)
               first
                 | exact bl_t (decide_eq_true (by simp only [faultOf]; omega))
                 | exact bl_f (decide_eq_false (by simp only [faultOf]; omega)))
        · refine A_iconst (pc := 43) (v := (nI 1)) (by decide) hX dX2_isTown_43 ?_
          refine A_goto (pc := 44) 48 hX dX2_isTown_44 rfl ?_
          refine A_iret (pc := 48) hX hR dX2_isTown_48 rfl rfl ?_
          first
            | exact absurd c17 (by decide)
            | ((try simp only [faultOf] at *)
               (try simp (disch := omega) only [nI_ltI, nI_leI, nI_eq] at *)
               first
                 | exact bl_t (decide_eq_true (by simp only [faultOf]; omega))
                 | exact bl_f (decide_eq_false (by simp only [faultOf]; omega)))
set_option maxRecDepth 100000 in
set_option maxHeartbeats 1000000 in
theorem ct_isRound (l : Launch) (G : aG) {p len : Nat} {cd : Nat → Nat} {σ : aS} (hp : RPg G p len cd σ) {nb : Nat} (hnb : nb ≤ 6) : ACt l G yX2_isRound cX2_isRound 2 (some (.boolean)) 3 0 0 [.ref p, .int (nI nb)] σ (dP (some (.int (bI (isRnB nb cd len)))) σ) := by
  have hp1 := hp
  obtain ⟨f, h0, h1, hlen, hcd⟩ := hp
  have hfl := flt_le (fitR nb cd) len 0
  refine ACt.intro (own := RX2) (nm := "isRound") mk_X2_isRound rfl rfl [some (.ref p), some (.int (nI nb))] rfl (Nat.le_of_ble_eq_true rfl) (fun X hX hR => ?_)
  refine A_aload_n (pc := 0) rfl hX dX2_isRound_0 ?_
  refine A_getf (pc := 1) hX fl_X2_15_2 dX2_isRound_1 (by repeat (first | assumption | exact aSet_s | exact aNew_s | refine lk_n ?_ (by omega) | refine lk_f (by assumption) ?_ (by omega) | refine lk_w ?_ (by omega))) (by exact rfl) ?_
  refine A_if_le (pc := 4) 23 hX dX2_isRound_4 rfl (fun c4 => ?_) (fun c4 => ?_)
  · refine A_iconst (pc := 23) (v := (nI 0)) (by decide) hX dX2_isRound_23 ?_
    refine A_iret (pc := 24) hX hR dX2_isRound_24 rfl rfl ?_
    have e : ¬ 0 < len := fun q => nI_nle q (by omega) c4
    exact bl_f (decide_eq_false (by omega))
  · refine A_aload_n (pc := 7) rfl hX dX2_isRound_7 ?_
    refine A_iload_n (pc := 8) rfl hX dX2_isRound_8 ?_
    refine A_V1d (pc := 9) hX mk_X2_faultOfRound lv_X2_39 dX2_isRound_9 (by repeat (first | assumption | exact aSet_s | exact aNew_s | refine lk_n ?_ (by omega) | refine lk_f (by assumption) ?_ (by omega) | refine lk_w ?_ (by omega))) (ct_faultOfRound l G hp1 hnb) rfl (Nat.le_of_ble_eq_true rfl) (Nat.le_of_ble_eq_true rfl) (Nat.le_of_ble_eq_true rfl) (Nat.le_of_ble_eq_true rfl) (Nat.le_of_ble_eq_true rfl) ?_
    refine A_aload_n (pc := 12) rfl hX dX2_isRound_12 ?_
    refine A_getf (pc := 13) hX fl_X2_15_2 dX2_isRound_13 (by repeat (first | assumption | exact aSet_s | exact aNew_s | refine lk_n ?_ (by omega) | refine lk_f (by assumption) ?_ (by omega) | refine lk_w ?_ (by omega))) (by exact rfl) ?_
    refine A_icmp_ne (pc := 16) 23 hX dX2_isRound_16 rfl (fun c16 => ?_) (fun c16 => ?_)
    · refine A_iconst (pc := 23) (v := (nI 0)) (by decide) hX dX2_isRound_23 ?_
      refine A_iret (pc := 24) hX hR dX2_isRound_24 rfl rfl ?_
      simp only [faultOf] at *
      simp (disch := omega) only [nI_ltI, nI_leI, nI_eq] at c16
      exact bl_f (decide_eq_false (by simp only [faultOf]; omega))
    · refine A_iconst (pc := 19) (v := (nI 1)) (by decide) hX dX2_isRound_19 ?_
      refine A_goto (pc := 20) 24 hX dX2_isRound_20 rfl ?_
      refine A_iret (pc := 24) hX hR dX2_isRound_24 rfl rfl ?_
      have e : 0 < len := Nat.pos_of_ne_zero (fun q => c4 (by subst q; decide))
      simp only [faultOf] at *
      simp (disch := omega) only [nI_ltI, nI_leI, nI_eq] at c16
      exact bl_t (decide_eq_true (by simp only [faultOf]; omega))
set_option maxRecDepth 100000 in
set_option maxHeartbeats 1000000 in
theorem ct_borrowers (l : Launch) (G : aG) {p len : Nat} {cd : Nat → Nat} {σ : aS} (hp : RPg G p len cd σ) : ACt l G yX2_borrowers cX2_borrowers 1 (some .int) 0 0 0 [.ref p] σ (dP (some (.int (nI ((len + 1) / 5)))) σ) := by
  obtain ⟨f, h0, h1, hlen, hcd⟩ := hp
  refine ACt.intro (own := RX2) (nm := "borrowers") mk_X2_borrowers rfl rfl [some (.ref p)] rfl (Nat.le_of_ble_eq_true rfl) (fun X hX hR => ?_)
  refine A_aload_n (pc := 0) rfl hX dX2_borrowers_0 ?_
  refine A_getf (pc := 1) hX fl_X2_15_2 dX2_borrowers_1 (by repeat (first | assumption | exact aSet_s | exact aNew_s | refine lk_n ?_ (by omega) | refine lk_f (by assumption) ?_ (by omega) | refine lk_w ?_ (by omega))) (by exact rfl) ?_
  refine A_iconst (pc := 4) (v := (nI 1)) (by decide) hX dX2_borrowers_4 ?_
  refine A_iadd (pc := 5) hX dX2_borrowers_5 ?_
  refine A_iconst (pc := 6) (v := (nI 5)) (by decide) hX dX2_borrowers_6 ?_
  refine A_idiv (pc := 7) (by decide) hX dX2_borrowers_7 ?_
  refine A_iret (pc := 8) hX hR dX2_borrowers_8 rfl rfl ?_
  exact ⟨by rw [nI_add, pk_div (by omega) (by decide) (by decide)], rfl⟩
set_option maxRecDepth 100000 in
set_option maxHeartbeats 1000000 in
theorem ct_borrowerFrom (l : Launch) (G : aG) {p len : Nat} {cd : Nat → Nat} {σ : aS} (hp : RPg G p len cd σ) {b : Nat} (hb : b * 5 + 3 < len) (hk : cd (b * 5) = 97 ∨ cd (b * 5) = 115 ∨ cd (b * 5) = 116 ∨ cd (b * 5) = 119 ∨ cd (b * 5) = 100) (ht : 48 ≤ cd (b * 5 + 1)) (hm : 48 ≤ cd (b * 5 + 2)) (hd : 48 ≤ cd (b * 5 + 3)) : ACt l G yX2_borrowerFrom cX2_borrowerFrom 6 (some (.object "LentChanged$Adder")) 4 1 3 [.ref p, .int (nI b)] σ (fun r σ' => r = some (.ref σ.1) ∧ σ'.1 = σ.1 + 1 ∧ (∀ a, a ≠ σ.1 → σ'.2 a = σ.2 a) ∧ σ'.2 σ.1 = some (oK (borC cd b).1 (borC cd b).2.1 (borC cd b).2.2.1 (borC cd b).2.2.2)) := by
  have hp1 := hp
  obtain ⟨f, h0, h1, hlen, hcd⟩ := hp
  refine ACt.intro (own := RX2) (nm := "borrowerFrom") mk_X2_borrowerFrom rfl rfl [some (.ref p), some (.int (nI b)), none, none, none, none] rfl (Nat.le_of_ble_eq_true rfl) (fun X hX hR => ?_)
  refine A_iload_n (pc := 0) rfl hX dX2_borrowerFrom_0 ?_
  refine A_iconst (pc := 1) (v := (nI 5)) (by decide) hX dX2_borrowerFrom_1 ?_
  refine A_imul (pc := 2) hX dX2_borrowerFrom_2 ?_
  refine A_top (y := nI (b * 5)) (pk_mul _ _) ?_
  refine A_istore_n (pc := 3) (lv' := [_, _, _, _, _, _]) hX dX2_borrowerFrom_3 (Nat.le_of_ble_eq_true rfl) rfl rfl ?_
  refine A_aload_n (pc := 4) rfl hX dX2_borrowerFrom_4 ?_
  refine A_iload_n (pc := 5) rfl hX dX2_borrowerFrom_5 ?_
  refine A_iconst (pc := 6) (v := (nI 1)) (by decide) hX dX2_borrowerFrom_6 ?_
  refine A_iadd (pc := 7) hX dX2_borrowerFrom_7 ?_
  refine A_top (y := nI (b * 5 + 1)) (nI_add _ _) ?_
  refine A_V1d (pc := 8) hX mk_X2_digitAt lv_X2_31 dX2_borrowerFrom_8 (by repeat (first | assumption | exact aSet_s | exact aNew_s | refine lk_n ?_ (by omega) | refine lk_f (by assumption) ?_ (by omega) | refine lk_w ?_ (by omega))) (ct_Pg_digitAt l G hp1 (by omega)) rfl (Nat.le_of_ble_eq_true rfl) (Nat.le_of_ble_eq_true rfl) (Nat.le_of_ble_eq_true rfl) (Nat.le_of_ble_eq_true rfl) (Nat.le_of_ble_eq_true rfl) ?_
  refine A_top (y := nI (cd (b * 5 + 1) - 48)) (pk_sub ht) ?_
  refine A_istore_n (pc := 11) (lv' := [_, _, _, _, _, _]) hX dX2_borrowerFrom_11 (Nat.le_of_ble_eq_true rfl) rfl rfl ?_
  refine A_aload_n (pc := 12) rfl hX dX2_borrowerFrom_12 ?_
  refine A_iload_n (pc := 13) rfl hX dX2_borrowerFrom_13 ?_
  refine A_iconst (pc := 14) (v := (nI 2)) (by decide) hX dX2_borrowerFrom_14 ?_
  refine A_iadd (pc := 15) hX dX2_borrowerFrom_15 ?_
  refine A_top (y := nI (b * 5 + 2)) (nI_add _ _) ?_
  refine A_V1d (pc := 16) hX mk_X2_digitAt lv_X2_31 dX2_borrowerFrom_16 (by repeat (first | assumption | exact aSet_s | exact aNew_s | refine lk_n ?_ (by omega) | refine lk_f (by assumption) ?_ (by omega) | refine lk_w ?_ (by omega))) (ct_Pg_digitAt l G hp1 (by omega)) rfl (Nat.le_of_ble_eq_true rfl) (Nat.le_of_ble_eq_true rfl) (Nat.le_of_ble_eq_true rfl) (Nat.le_of_ble_eq_true rfl) (Nat.le_of_ble_eq_true rfl) ?_
  refine A_top (y := nI (cd (b * 5 + 2) - 48)) (pk_sub hm) ?_
  refine A_istore (pc := 19) (lv' := [_, _, _, _, _, _]) hX dX2_borrowerFrom_19 (Nat.le_of_ble_eq_true rfl) rfl rfl ?_
  refine A_aload_n (pc := 21) rfl hX dX2_borrowerFrom_21 ?_
  refine A_iload_n (pc := 22) rfl hX dX2_borrowerFrom_22 ?_
  refine A_iconst (pc := 23) (v := (nI 3)) (by decide) hX dX2_borrowerFrom_23 ?_
  refine A_iadd (pc := 24) hX dX2_borrowerFrom_24 ?_
  refine A_top (y := nI (b * 5 + 3)) (nI_add _ _) ?_
  refine A_V1d (pc := 25) hX mk_X2_digitAt lv_X2_31 dX2_borrowerFrom_25 (by repeat (first | assumption | exact aSet_s | exact aNew_s | refine lk_n ?_ (by omega) | refine lk_f (by assumption) ?_ (by omega) | refine lk_w ?_ (by omega))) (ct_Pg_digitAt l G hp1 (by omega)) rfl (Nat.le_of_ble_eq_true rfl) (Nat.le_of_ble_eq_true rfl) (Nat.le_of_ble_eq_true rfl) (Nat.le_of_ble_eq_true rfl) (Nat.le_of_ble_eq_true rfl) ?_
  refine A_top (y := nI (cd (b * 5 + 3) - 48)) (pk_sub hd) ?_
  refine A_istore (pc := 28) (lv' := [_, _, _, _, _, _]) hX dX2_borrowerFrom_28 (Nat.le_of_ble_eq_true rfl) rfl rfl ?_
  refine A_aload_n (pc := 30) rfl hX dX2_borrowerFrom_30 ?_
  refine A_getf (pc := 31) hX fl_X2_9_2 dX2_borrowerFrom_31 (by repeat (first | assumption | exact aSet_s | exact aNew_s | refine lk_n ?_ (by omega) | refine lk_f (by assumption) ?_ (by omega) | refine lk_w ?_ (by omega))) (by exact rfl) ?_
  refine A_iload_n (pc := 34) rfl hX dX2_borrowerFrom_34 ?_
  refine A_S2d (pc := 35) hX mk_X11_at ls_X2_23 dX2_borrowerFrom_35 (ct_at l G (by repeat (first | assumption | exact aSet_s | exact aNew_s | refine lk_n ?_ (by omega) | refine lk_f (by assumption) ?_ (by omega) | refine lk_w ?_ (by omega))) (by decide)) rfl (Nat.le_of_ble_eq_true rfl) (Nat.le_of_ble_eq_true rfl) (Nat.le_of_ble_eq_true rfl) (Nat.le_of_ble_eq_true rfl) (Nat.le_of_ble_eq_true rfl) ?_
  refine A_top (y := nI (cd (b * 5))) (by rw [atS_nI (by omega) (by decide), (hcd (b * 5) (by omega)).1]) ?_
  rcases hk with hk | hk | hk | hk | hk <;> rw [hk]
  · refine A_lookup (pc := 38) (off := 94) 132 hX dX2_borrowerFrom_38 (by decide) (by decide) rfl ?_
    refine A_new (pc := 132) (fs := [.int 0, .int 0, .int 0]) hX nw_X2_56 dX2_borrowerFrom_132 nf_0 (Nat.le_of_ble_eq_true rfl) (Nat.le_of_ble_eq_true rfl) ?_
    refine A_dup (pc := 135) rfl hX dX2_borrowerFrom_135 ?_
    refine A_iload_n (pc := 136) rfl hX dX2_borrowerFrom_136 ?_
    refine A_iload (pc := 137) rfl hX dX2_borrowerFrom_137 ?_
    refine A_iload (pc := 139) rfl hX dX2_borrowerFrom_139 ?_
    refine A_I3v (pc := 141) hX mk_X0_init li_X2_58 dX2_borrowerFrom_141 (ct_X0_init l G pl_X0_9_0 pl_X0_15_0 pl_X0_18_0 aNew_s) rfl (Nat.le_of_ble_eq_true rfl) (Nat.le_of_ble_eq_true rfl) (Nat.le_of_ble_eq_true rfl) (Nat.le_of_ble_eq_true rfl) (Nat.le_of_ble_eq_true rfl) (fun σ1 hn => ?_)
    refine A_aret (pc := 144) hX hR dX2_borrowerFrom_144 (Or.inr ⟨_, rfl⟩) ?_
    refine ⟨rfl, hn.2.1, fun a ha => ?_, ?_⟩
    · rcases Nat.lt_or_gt_of_ne ha with q | q
      · exact (hn.2.2 a (.inl q)).trans (aNew_n ha)
      · exact (hn.2.2 a (.inr q)).trans (aNew_n ha)
    · rw [hn.1]
      simp [oK, borC, kindC, ciK, hk]
  · refine A_lookup (pc := 38) (off := 42) 80 hX dX2_borrowerFrom_38 (by decide) (by decide) rfl ?_
    refine A_new (pc := 80) (fs := [.int 0, .int 0, .int 0]) hX nw_X2_42 dX2_borrowerFrom_80 nf_4 (Nat.le_of_ble_eq_true rfl) (Nat.le_of_ble_eq_true rfl) ?_
    refine A_dup (pc := 83) rfl hX dX2_borrowerFrom_83 ?_
    refine A_iload_n (pc := 84) rfl hX dX2_borrowerFrom_84 ?_
    refine A_iload (pc := 85) rfl hX dX2_borrowerFrom_85 ?_
    refine A_iload (pc := 87) rfl hX dX2_borrowerFrom_87 ?_
    refine A_I3v (pc := 89) hX mk_X4_init li_X2_44 dX2_borrowerFrom_89 (ct_X4_init l G pl_X0_9_4 pl_X0_15_4 pl_X0_18_4 aNew_s) rfl (Nat.le_of_ble_eq_true rfl) (Nat.le_of_ble_eq_true rfl) (Nat.le_of_ble_eq_true rfl) (Nat.le_of_ble_eq_true rfl) (Nat.le_of_ble_eq_true rfl) (fun σ1 hn => ?_)
    refine A_aret (pc := 92) hX hR dX2_borrowerFrom_92 (Or.inr ⟨_, rfl⟩) ?_
    refine ⟨rfl, hn.2.1, fun a ha => ?_, ?_⟩
    · rcases Nat.lt_or_gt_of_ne ha with q | q
      · exact (hn.2.2 a (.inl q)).trans (aNew_n ha)
      · exact (hn.2.2 a (.inr q)).trans (aNew_n ha)
    · rw [hn.1]
      simp [oK, borC, kindC, ciK, hk]
  · refine A_lookup (pc := 38) (off := 55) 93 hX dX2_borrowerFrom_38 (by decide) (by decide) rfl ?_
    refine A_new (pc := 93) (fs := [.int 0, .int 0, .int 0]) hX nw_X2_47 dX2_borrowerFrom_93 nf_9 (Nat.le_of_ble_eq_true rfl) (Nat.le_of_ble_eq_true rfl) ?_
    refine A_dup (pc := 96) rfl hX dX2_borrowerFrom_96 ?_
    refine A_iload_n (pc := 97) rfl hX dX2_borrowerFrom_97 ?_
    refine A_iload (pc := 98) rfl hX dX2_borrowerFrom_98 ?_
    refine A_iload (pc := 100) rfl hX dX2_borrowerFrom_100 ?_
    refine A_I3v (pc := 102) hX mk_X9_init li_X2_49 dX2_borrowerFrom_102 (ct_X9_init l G pl_X0_9_9 pl_X0_15_9 pl_X0_18_9 aNew_s) rfl (Nat.le_of_ble_eq_true rfl) (Nat.le_of_ble_eq_true rfl) (Nat.le_of_ble_eq_true rfl) (Nat.le_of_ble_eq_true rfl) (Nat.le_of_ble_eq_true rfl) (fun σ1 hn => ?_)
    refine A_aret (pc := 105) hX hR dX2_borrowerFrom_105 (Or.inr ⟨_, rfl⟩) ?_
    refine ⟨rfl, hn.2.1, fun a ha => ?_, ?_⟩
    · rcases Nat.lt_or_gt_of_ne ha with q | q
      · exact (hn.2.2 a (.inl q)).trans (aNew_n ha)
      · exact (hn.2.2 a (.inr q)).trans (aNew_n ha)
    · rw [hn.1]
      simp [oK, borC, kindC, ciK, hk]
  · refine A_lookup (pc := 38) (off := 68) 106 hX dX2_borrowerFrom_38 (by decide) (by decide) rfl ?_
    refine A_new (pc := 106) (fs := [.int 0, .int 0, .int 0]) hX nw_X2_50 dX2_borrowerFrom_106 nf_6 (Nat.le_of_ble_eq_true rfl) (Nat.le_of_ble_eq_true rfl) ?_
    refine A_dup (pc := 109) rfl hX dX2_borrowerFrom_109 ?_
    refine A_iload_n (pc := 110) rfl hX dX2_borrowerFrom_110 ?_
    refine A_iload (pc := 111) rfl hX dX2_borrowerFrom_111 ?_
    refine A_iload (pc := 113) rfl hX dX2_borrowerFrom_113 ?_
    refine A_I3v (pc := 115) hX mk_X6_init li_X2_52 dX2_borrowerFrom_115 (ct_X6_init l G pl_X0_9_6 pl_X0_15_6 pl_X0_18_6 aNew_s) rfl (Nat.le_of_ble_eq_true rfl) (Nat.le_of_ble_eq_true rfl) (Nat.le_of_ble_eq_true rfl) (Nat.le_of_ble_eq_true rfl) (Nat.le_of_ble_eq_true rfl) (fun σ1 hn => ?_)
    refine A_aret (pc := 118) hX hR dX2_borrowerFrom_118 (Or.inr ⟨_, rfl⟩) ?_
    refine ⟨rfl, hn.2.1, fun a ha => ?_, ?_⟩
    · rcases Nat.lt_or_gt_of_ne ha with q | q
      · exact (hn.2.2 a (.inl q)).trans (aNew_n ha)
      · exact (hn.2.2 a (.inr q)).trans (aNew_n ha)
    · rw [hn.1]
      simp [oK, borC, kindC, ciK, hk]
  · refine A_lookup (pc := 38) (off := 81) 119 hX dX2_borrowerFrom_38 (by decide) (by decide) rfl ?_
    refine A_new (pc := 119) (fs := [.int 0, .int 0, .int 0]) hX nw_X2_53 dX2_borrowerFrom_119 nf_1 (Nat.le_of_ble_eq_true rfl) (Nat.le_of_ble_eq_true rfl) ?_
    refine A_dup (pc := 122) rfl hX dX2_borrowerFrom_122 ?_
    refine A_iload_n (pc := 123) rfl hX dX2_borrowerFrom_123 ?_
    refine A_iload (pc := 124) rfl hX dX2_borrowerFrom_124 ?_
    refine A_iload (pc := 126) rfl hX dX2_borrowerFrom_126 ?_
    refine A_I3v (pc := 128) hX mk_X1_init li_X2_55 dX2_borrowerFrom_128 (ct_X1_init l G pl_X0_9_1 pl_X0_15_1 pl_X0_18_1 aNew_s) rfl (Nat.le_of_ble_eq_true rfl) (Nat.le_of_ble_eq_true rfl) (Nat.le_of_ble_eq_true rfl) (Nat.le_of_ble_eq_true rfl) (Nat.le_of_ble_eq_true rfl) (fun σ1 hn => ?_)
    refine A_aret (pc := 131) hX hR dX2_borrowerFrom_131 (Or.inr ⟨_, rfl⟩) ?_
    refine ⟨rfl, hn.2.1, fun a ha => ?_, ?_⟩
    · rcases Nat.lt_or_gt_of_ne ha with q | q
      · exact (hn.2.2 a (.inl q)).trans (aNew_n ha)
      · exact (hn.2.2 a (.inr q)).trans (aNew_n ha)
    · rw [hn.1]
      simp [oK, borC, kindC, ciK, hk]
set_option maxRecDepth 100000 in
set_option maxHeartbeats 1000000 in
theorem ct_Pg_init (l : Launch) (G : aG) {p : Nat} {σ : aS} (h : σ.2 p = some (aO 2 [.null, .int 0])) (hlt : p < σ.1) : ACt l G yX2_init cX2_init 1 (none) 1 1 30 [.ref p] σ (vP (fun σ' => σ'.1 = σ.1 + 1 ∧ (∀ a, a < σ.1 → a ≠ p → σ'.2 a = σ.2 a) ∧ σ'.2 p = some (aO 2 [.ref σ.1, .int 0]) ∧ σ'.2 σ.1 = some (aI G 30 (fun _ => 0)))) := by
  refine ACt.intro (own := RX2) (nm := "<init>") mk_X2_init rfl rfl [some (.ref p)] rfl (Nat.le_of_ble_eq_true rfl) (fun X hX hR => ?_)
  refine A_aload_n (pc := 0) rfl hX dX2_init_0 ?_
  refine A_objInit (pc := 1) hX lo_X2_3 dX2_init_1 rfl (Nat.le_of_ble_eq_true rfl) (Nat.le_of_ble_eq_true rfl) ?_
  refine A_aload_n (pc := 4) rfl hX dX2_init_4 ?_
  refine A_bipush (pc := 5) (v := (nI 30)) (by decide) hX dX2_init_5 ?_
  refine A_newI (pc := 7) (N := 30) hX dX2_init_7 (by decide) (by decide) (by decide) (Nat.le_of_ble_eq_true rfl) (Nat.le_of_ble_eq_true rfl) ?_
  refine A_putF (pc := 9) (fs' := [_, _]) hX pl_X2_9_2 dX2_init_9 (lk_w h (by omega)) (by exact Nat.le_of_ble_eq_true rfl) (by exact rfl) rfl rfl ?_
  refine A_ret (pc := 12) hX hR dX2_init_12 ?_
  exact ⟨rfl, rfl, fun a h1 h2 => (aSet_n h2).trans (aNew_n (by omega)), aSet_s, (aSet_n (by omega)).trans aNew_s⟩
end
section
/-! the town: w the object, w + 1 its borrowers, w + 2 what each makes of each state, w + 3, w + 4 the rows of a round; the borrowers lie at tp and above -/
def mkB (B : Nat → Nat × Nat × Nat × Nat) (b s : Nat) : Nat := mk (B b).1 (B b).2.1 (B b).2.2.1 s
def oB (B : Nat → Nat × Nat × Nat × Nat) (b : Nat) : va_E := oK (B b).1 (B b).2.1 (B b).2.2.1 (B b).2.2.2
def okB (nb : Nat) (B : Nat → Nat × Nat × Nat × Nat) : Prop := ∀ b, b < nb → (B b).1 ≤ 4 ∧ (B b).2.1 < 3 ∧ 1 ≤ (B b).2.2.1 ∧ (B b).2.2.1 < 8 ∧ 1 ≤ (B b).2.2.2 ∧ (B b).2.2.2 ≤ 5
theorem mkB_lt {nb : Nat} {B : Nat → Nat × Nat × Nat × Nat} (h : okB nb B) {b s : Nat} (hb : b < nb) (hs : s < 512) : mkB B b s < 512 := mk_lt hs (h b hb).2.1 (h b hb).2.2.2.1
def RTw (G : aG) (w tp nb : Nat) (B : Nat → Nat × Nat × Nat × Nat) (σ : aS) : Prop := w + 5 ≤ tp ∧ nb ≤ 6 ∧ okB nb B ∧ ∃ (bor : Nat → Option Nat) (fa fo fn : Nat → Int32), σ.2 w = some (aO 8 [.ref (w + 1), .ref (w + 2), .ref (w + 3), .ref (w + 4), .int (nI nb)]) ∧ σ.2 (w + 1) = some (aR G 6 bor) ∧ σ.2 (w + 2) = some (aI G 3072 fa) ∧ σ.2 (w + 3) = some (aI G 512 fo) ∧ σ.2 (w + 4) = some (aI G 512 fn) ∧
  (∀ b, b < nb → ∃ a, bor b = some a ∧ tp ≤ a ∧ σ.2 a = some (oB B b)) ∧ ∀ b, b < nb → ∀ s, s < 512 → fa (b * 512 + s) = nI (mkB B b s)
theorem RTw.kept {G : aG} {w tp nb : Nat} {B : Nat → Nat × Nat × Nat × Nat} {σ σ' : aS} (h : RTw G w tp nb B σ) (hk : ∀ a, (w ≤ a ∧ a < w + 5) ∨ tp ≤ a → (σ.2 a).isSome = true → σ'.2 a = σ.2 a) : RTw G w tp nb B σ' := by
  obtain ⟨h1, h2, h3, bor, fa, fo, fn, e0, e1, e2, e3, e4, e5, e6⟩ := h
  refine ⟨h1, h2, h3, bor, fa, fo, fn, (hk w (by omega) (by rw [e0]; rfl)).trans e0, (hk (w + 1) (by omega) (by rw [e1]; rfl)).trans e1, (hk (w + 2) (by omega) (by rw [e2]; rfl)).trans e2, (hk (w + 3) (by omega) (by rw [e3]; rfl)).trans e3, (hk (w + 4) (by omega) (by rw [e4]; rfl)).trans e4, fun b hb => ?_, e6⟩
  obtain ⟨a, a1, a2, a3⟩ := e5 b hb
  exact ⟨a, a1, a2, (hk a (.inr a2) (by rw [a3]; rfl)).trans a3⟩
theorem RTw.fr {G : aG} {w tp nb lo hi : Nat} {B : Nat → Nat × Nat × Nat × Nat} {σ σ' : aS} (h : RTw G w tp nb B σ) (hf : Fr lo hi σ σ') (h1 : hi ≤ tp) (h2 : hi ≤ w ∨ w + 5 ≤ lo) : RTw G w tp nb B σ' := h.kept fun a ha _ => hf.2 a (by omega)
theorem RPg.fr {G : aG} {p len lo hi : Nat} {cd : Nat → Nat} {σ σ' : aS} (h : RPg G p len cd σ) (hf : Fr lo hi σ σ') (h2 : hi ≤ p ∨ p + 2 ≤ lo) : RPg G p len cd σ' := h.kept fun a ha _ => hf.2 a (by omega)
set_option maxRecDepth 100000 in
set_option maxHeartbeats 1000000 in
theorem ct_Tw_init (l : Launch) (G : aG) {w : Nat} {σ : aS} (ho : σ.2 w = some (aO 8 [.null, .null, .null, .null, .int 0])) (hz : σ.1 = w + 1) : ACt l G yX8_init cX8_init 1 (none) 1 4 4102 [.ref w] σ (vP (fun σ' => σ'.1 = w + 5 ∧ (∀ a, a < w → σ'.2 a = σ.2 a) ∧ RTw G w (w + 5) 0 (fun _ => (0, 0, 0, 0)) σ')) := by
  have hl : ∀ a, a < w → σ.2 a = σ.2 a := fun _ _ => rfl
  refine ACt.intro (own := RX8) (nm := "<init>") mk_X8_init rfl rfl [some (.ref w)] rfl (Nat.le_of_ble_eq_true rfl) (fun X hX hR => ?_)
  refine A_aload_n (pc := 0) rfl hX dX8_init_0 ?_
  refine A_objInit (pc := 1) hX lo_X8_3 dX8_init_1 rfl (Nat.le_of_ble_eq_true rfl) (Nat.le_of_ble_eq_true rfl) ?_
  refine A_aload_n (pc := 4) rfl hX dX8_init_4 ?_
  refine A_bipush (pc := 5) (v := (nI 6)) (by decide) hX dX8_init_5 ?_
  refine A_newQ (pc := 7) (N := 6) hX cl_X8_9 dX8_init_7 (by decide) (by decide) (by decide) (Nat.le_of_ble_eq_true rfl) (Nat.le_of_ble_eq_true rfl) ?_
  refine A_putF (pc := 10) (fs' := [_, _, _, _, _]) hX pl_X8_11_8 dX8_init_10 (by repeat (first | assumption | exact aSet_s | exact aNew_s | refine lk_n ?_ (by omega) | refine lk_f (by assumption) ?_ (by omega) | refine lk_w ?_ (by omega))) (by exact Nat.le_of_ble_eq_true rfl) (by exact rfl) rfl rfl ?_
  refine A_gen (fun z => z.1 = w + 2 ∧ (∀ a, a < w → z.2 a = σ.2 a) ∧ z.2 w = some (aO 8 [.ref (w + 1), .null, .null, .null, .int 0]) ∧ z.2 (w + 1) = some (aR G 6 (fun _ => none))) ⟨by show _ + 1 = _; omega, fun a ha => (aSet_n (by omega)).trans ((aNew_n (by omega)).trans (hl a ha)), by rw [aSet_s, hz], lk_n (aNew_s' (by omega)) (by omega)⟩ (fun σ13 hg => ?_)
  obtain ⟨hz, hl, ho, hc1⟩ := hg
  refine A_aload_n (pc := 13) rfl hX dX8_init_13 ?_
  refine A_sipush (pc := 14) (v := (nI 3072)) (by decide) hX dX8_init_14 ?_
  refine A_newI (pc := 17) (N := 3072) hX dX8_init_17 (by decide) (by decide) (by decide) (Nat.le_of_ble_eq_true rfl) (Nat.le_of_ble_eq_true rfl) ?_
  refine A_putF (pc := 19) (fs' := [_, _, _, _, _]) hX pl_X8_17_8 dX8_init_19 (by repeat (first | assumption | exact aSet_s | exact aNew_s | refine lk_n ?_ (by omega) | refine lk_f (by assumption) ?_ (by omega) | refine lk_w ?_ (by omega))) (by exact Nat.le_of_ble_eq_true rfl) (by exact rfl) rfl rfl ?_
  refine A_gen (fun z => z.1 = w + 3 ∧ (∀ a, a < w → z.2 a = σ.2 a) ∧ z.2 w = some (aO 8 [.ref (w + 1), .ref (w + 2), .null, .null, .int 0]) ∧ z.2 (w + 1) = some (aR G 6 (fun _ => none)) ∧ z.2 (w + 2) = some (aI G 3072 (fun _ => 0))) ⟨by show _ + 1 = _; omega, fun a ha => (aSet_n (by omega)).trans ((aNew_n (by omega)).trans (hl a ha)), by rw [aSet_s, hz], lk_n (lk_w hc1 (by omega)) (by omega), lk_n (aNew_s' (by omega)) (by omega)⟩ (fun σ22 hg => ?_)
  obtain ⟨hz, hl, ho, hc1, hc2⟩ := hg
  refine A_aload_n (pc := 22) rfl hX dX8_init_22 ?_
  refine A_sipush (pc := 23) (v := (nI 512)) (by decide) hX dX8_init_23 ?_
  refine A_newI (pc := 26) (N := 512) hX dX8_init_26 (by decide) (by decide) (by decide) (Nat.le_of_ble_eq_true rfl) (Nat.le_of_ble_eq_true rfl) ?_
  refine A_putF (pc := 28) (fs' := [_, _, _, _, _]) hX pl_X8_21_8 dX8_init_28 (by repeat (first | assumption | exact aSet_s | exact aNew_s | refine lk_n ?_ (by omega) | refine lk_f (by assumption) ?_ (by omega) | refine lk_w ?_ (by omega))) (by exact Nat.le_of_ble_eq_true rfl) (by exact rfl) rfl rfl ?_
  refine A_gen (fun z => z.1 = w + 4 ∧ (∀ a, a < w → z.2 a = σ.2 a) ∧ z.2 w = some (aO 8 [.ref (w + 1), .ref (w + 2), .ref (w + 3), .null, .int 0]) ∧ z.2 (w + 1) = some (aR G 6 (fun _ => none)) ∧ z.2 (w + 2) = some (aI G 3072 (fun _ => 0)) ∧ z.2 (w + 3) = some (aI G 512 (fun _ => 0))) ⟨by show _ + 1 = _; omega, fun a ha => (aSet_n (by omega)).trans ((aNew_n (by omega)).trans (hl a ha)), by rw [aSet_s, hz], lk_n (lk_w hc1 (by omega)) (by omega), lk_n (lk_w hc2 (by omega)) (by omega), lk_n (aNew_s' (by omega)) (by omega)⟩ (fun σ31 hg => ?_)
  obtain ⟨hz, hl, ho, hc1, hc2, hc3⟩ := hg
  refine A_aload_n (pc := 31) rfl hX dX8_init_31 ?_
  refine A_sipush (pc := 32) (v := (nI 512)) (by decide) hX dX8_init_32 ?_
  refine A_newI (pc := 35) (N := 512) hX dX8_init_35 (by decide) (by decide) (by decide) (Nat.le_of_ble_eq_true rfl) (Nat.le_of_ble_eq_true rfl) ?_
  refine A_putF (pc := 37) (fs' := [_, _, _, _, _]) hX pl_X8_24_8 dX8_init_37 (by repeat (first | assumption | exact aSet_s | exact aNew_s | refine lk_n ?_ (by omega) | refine lk_f (by assumption) ?_ (by omega) | refine lk_w ?_ (by omega))) (by exact Nat.le_of_ble_eq_true rfl) (by exact rfl) rfl rfl ?_
  refine A_gen (fun z => z.1 = w + 5 ∧ (∀ a, a < w → z.2 a = σ.2 a) ∧ z.2 w = some (aO 8 [.ref (w + 1), .ref (w + 2), .ref (w + 3), .ref (w + 4), .int 0]) ∧ z.2 (w + 1) = some (aR G 6 (fun _ => none)) ∧ z.2 (w + 2) = some (aI G 3072 (fun _ => 0)) ∧ z.2 (w + 3) = some (aI G 512 (fun _ => 0)) ∧ z.2 (w + 4) = some (aI G 512 (fun _ => 0))) ⟨by show _ + 1 = _; omega, fun a ha => (aSet_n (by omega)).trans ((aNew_n (by omega)).trans (hl a ha)), by rw [aSet_s, hz], lk_n (lk_w hc1 (by omega)) (by omega), lk_n (lk_w hc2 (by omega)) (by omega), lk_n (lk_w hc3 (by omega)) (by omega), lk_n (aNew_s' (by omega)) (by omega)⟩ (fun σ40 hg => ?_)
  obtain ⟨hz, hl, ho, hc1, hc2, hc3, hc4⟩ := hg
  refine A_ret (pc := 40) hX hR dX8_init_40 ?_
  exact ⟨rfl, hz, hl, Nat.le_refl _, by omega, fun b hb => absurd hb (by omega), _, _, _, _, ho, hc1, hc2, hc3, hc4, fun b hb => absurd hb (by omega), fun b hb => absurd hb (by omega)⟩
set_option maxRecDepth 100000 in
set_option maxHeartbeats 1000000 in
theorem ct_borrowerAt (l : Launch) (G : aG) {w tp nb : Nat} {B : Nat → Nat × Nat × Nat × Nat} {σ : aS} (hw : RTw G w tp nb B σ) {x : Int32} : ACt l G yX8_borrowerAt cX8_borrowerAt 2 (some (.object "LentChanged$Adder")) 0 0 0 [.ref w, .int x] σ (fun r σ' => σ' = σ ∧ ((r = some .null ∧ ¬ (0 ≤ x ∧ x < nI nb)) ∨ ∃ b a, b < nb ∧ x = nI b ∧ r = some (.ref a) ∧ tp ≤ a ∧ σ.2 a = some (oB B b))) := by
  obtain ⟨hwt, hnb, hok, bor, fa, fo, fn, e0, e1, e2, e3, e4, e5, e6⟩ := id hw
  refine ACt.intro (own := RX8) (nm := "borrowerAt") mk_X8_borrowerAt rfl rfl [some (.ref w), some (.int x)] rfl (Nat.le_of_ble_eq_true rfl) (fun X hX hR => ?_)
  refine A_iload_n (pc := 0) rfl hX dX8_borrowerAt_0 ?_
  refine A_if_lt (pc := 1) 30 hX dX8_borrowerAt_1 rfl (fun c1 => ?_) (fun c1 => ?_)
  · refine A_null (pc := 30) hX dX8_borrowerAt_30 ?_
    refine A_aret (pc := 31) hX hR dX8_borrowerAt_31 (Or.inl rfl) ?_
    exact ⟨rfl, .inl ⟨rfl, fun q => i_nlt.mpr q.1 c1⟩⟩
  · refine A_iload_n (pc := 4) rfl hX dX8_borrowerAt_4 ?_
    refine A_aload_n (pc := 5) rfl hX dX8_borrowerAt_5 ?_
    refine A_getf (pc := 6) hX fl_X8_38_8 dX8_borrowerAt_6 (by repeat (first | assumption | exact aSet_s | exact aNew_s | refine lk_n ?_ (by omega) | refine lk_f (by assumption) ?_ (by omega) | refine lk_w ?_ (by omega))) (by exact rfl) ?_
    refine A_icmp_ge (pc := 9) 30 hX dX8_borrowerAt_9 rfl (fun c9 => ?_) (fun c9 => ?_)
    · refine A_null (pc := 30) hX dX8_borrowerAt_30 ?_
      refine A_aret (pc := 31) hX hR dX8_borrowerAt_31 (Or.inl rfl) ?_
      exact ⟨rfl, .inl ⟨rfl, fun q => i_nle.mpr q.2 c9⟩⟩
    · obtain ⟨b, hb31, rfl⟩ := nI_of c1
      have hb : b < nb := (nI_ltI hb31 (by omega)).mp (i_nle.mp c9)
      obtain ⟨a, a1, a2, a3⟩ := e5 b hb
      refine A_iload_n (pc := 12) rfl hX dX8_borrowerAt_12 ?_
      refine A_aload_n (pc := 13) rfl hX dX8_borrowerAt_13 ?_
      refine A_getf (pc := 14) hX fl_X8_11_8 dX8_borrowerAt_14 (by repeat (first | assumption | exact aSet_s | exact aNew_s | refine lk_n ?_ (by omega) | refine lk_f (by assumption) ?_ (by omega) | refine lk_w ?_ (by omega))) (by exact rfl) ?_
      refine A_alenQ (pc := 17) hX dX8_borrowerAt_17 (by repeat (first | assumption | exact aSet_s | exact aNew_s | refine lk_n ?_ (by omega) | refine lk_f (by assumption) ?_ (by omega) | refine lk_w ?_ (by omega))) ?_
      refine A_icmp_ge (pc := 18) 30 hX dX8_borrowerAt_18 rfl (fun c18 => ?_) (fun c18 => ?_)
      · exact absurd c18 (nI_ge (by omega) (by decide))
      · refine A_aload_n (pc := 21) rfl hX dX8_borrowerAt_21 ?_
        refine A_getf (pc := 22) hX fl_X8_11_8 dX8_borrowerAt_22 (by repeat (first | assumption | exact aSet_s | exact aNew_s | refine lk_n ?_ (by omega) | refine lk_f (by assumption) ?_ (by omega) | refine lk_w ?_ (by omega))) (by exact rfl) ?_
        refine A_iload_n (pc := 25) rfl hX dX8_borrowerAt_25 ?_
        refine A_aald (pc := 26) hX dX8_borrowerAt_26 (by repeat (first | assumption | exact aSet_s | exact aNew_s | refine lk_n ?_ (by omega) | refine lk_f (by assumption) ?_ (by omega) | refine lk_w ?_ (by omega))) (vp_in_nI (by omega) (by decide)) (by rw [nI_clamp (by omega), a1]; try rfl) ?_
        refine A_goto (pc := 27) 31 hX dX8_borrowerAt_27 rfl ?_
        refine A_aret (pc := 31) hX hR dX8_borrowerAt_31 (Or.inr ⟨_, rfl⟩) ?_
        exact ⟨rfl, .inr ⟨b, a, hb, rfl, rfl, a2, a3⟩⟩
set_option maxRecDepth 100000 in
set_option maxHeartbeats 1000000 in
theorem ct_after (l : Launch) (G : aG) {w tp nb : Nat} {B : Nat → Nat × Nat × Nat × Nat} {σ : aS} (hw : RTw G w tp nb B σ) {b s : Nat} (hb : b < nb) (hs : s < 512) : ACt l G yX8_after cX8_after 4 (some .int) 0 0 0 [.ref w, .int (nI b), .int (nI s)] σ (dP (some (.int (nI (mkB B b s)))) σ) := by
  obtain ⟨hwt, hnb, hok, bor, fa, fo, fn, e0, e1, e2, e3, e4, e5, e6⟩ := id hw
  refine ACt.intro (own := RX8) (nm := "after") mk_X8_after rfl rfl [some (.ref w), some (.int (nI b)), some (.int (nI s)), none] rfl (Nat.le_of_ble_eq_true rfl) (fun X hX hR => ?_)
  refine A_iload_n (pc := 0) rfl hX dX8_after_0 ?_
  refine A_sipush (pc := 1) (v := (nI 512)) (by decide) hX dX8_after_1 ?_
  refine A_imul (pc := 4) hX dX8_after_4 ?_
  refine A_top (y := nI (b * 512)) (pk_mul _ _) ?_
  refine A_iload_n (pc := 5) rfl hX dX8_after_5 ?_
  refine A_iadd (pc := 6) hX dX8_after_6 ?_
  refine A_top (y := nI (b * 512 + s)) (nI_add _ _) ?_
  refine A_istore_n (pc := 7) (lv' := [_, _, _, _]) hX dX8_after_7 (Nat.le_of_ble_eq_true rfl) rfl rfl ?_
  refine A_iload_n (pc := 8) rfl hX dX8_after_8 ?_
  refine A_if_lt (pc := 9) 30 hX dX8_after_9 rfl (fun c9 => ?_) (fun c9 => ?_)
  · exact absurd c9 (nI_pos (by omega))
  · refine A_iload_n (pc := 12) rfl hX dX8_after_12 ?_
    refine A_aload_n (pc := 13) rfl hX dX8_after_13 ?_
    refine A_getf (pc := 14) hX fl_X8_17_8 dX8_after_14 (by repeat (first | assumption | exact aSet_s | exact aNew_s | refine lk_n ?_ (by omega) | refine lk_f (by assumption) ?_ (by omega) | refine lk_w ?_ (by omega))) (by exact rfl) ?_
    refine A_alenI (pc := 17) hX dX8_after_17 (by repeat (first | assumption | exact aSet_s | exact aNew_s | refine lk_n ?_ (by omega) | refine lk_f (by assumption) ?_ (by omega) | refine lk_w ?_ (by omega))) ?_
    refine A_icmp_ge (pc := 18) 30 hX dX8_after_18 rfl (fun c18 => ?_) (fun c18 => ?_)
    · exact absurd c18 (nI_ge (by omega) (by decide))
    · refine A_aload_n (pc := 21) rfl hX dX8_after_21 ?_
      refine A_getf (pc := 22) hX fl_X8_17_8 dX8_after_22 (by repeat (first | assumption | exact aSet_s | exact aNew_s | refine lk_n ?_ (by omega) | refine lk_f (by assumption) ?_ (by omega) | refine lk_w ?_ (by omega))) (by exact rfl) ?_
      refine A_iload_n (pc := 25) rfl hX dX8_after_25 ?_
      refine A_iald (pc := 26) hX dX8_after_26 (by repeat (first | assumption | exact aSet_s | exact aNew_s | refine lk_n ?_ (by omega) | refine lk_f (by assumption) ?_ (by omega) | refine lk_w ?_ (by omega))) (vp_in_nI (by omega) (by decide)) ?_
      refine A_goto (pc := 27) 31 hX dX8_after_27 rfl ?_
      refine A_iret (pc := 31) hX hR dX8_after_31 rfl rfl ?_
      exact ⟨by rw [nI_clamp (by omega), e6 b hb s hs], rfl⟩
theorem oK_get {a k t m d : Nat} {σ : aS} (hk : k ≤ 4) (h : σ.2 a = some (oK k t m d)) : σ.2 a = some (aO 0 [.int (nI t), .int (nI m), .int (nI d)]) ∧ k = 0 ∨ σ.2 a = some (aO 4 [.int (nI t), .int (nI m), .int (nI d)]) ∧ k = 1 ∨ σ.2 a = some (aO 9 [.int (nI t), .int (nI m), .int (nI d)]) ∧ k = 2 ∨ σ.2 a = some (aO 6 [.int (nI t), .int (nI m), .int (nI d)]) ∧ k = 3 ∨ σ.2 a = some (aO 1 [.int (nI t), .int (nI m), .int (nI d)]) ∧ k = 4 := by
  rcases (show k = 0 ∨ k = 1 ∨ k = 2 ∨ k = 3 ∨ k = 4 by omega) with rfl | rfl | rfl | rfl | rfl
  · exact .inl ⟨h, rfl⟩
  · exact .inr (.inl ⟨h, rfl⟩)
  · exact .inr (.inr (.inl ⟨h, rfl⟩))
  · exact .inr (.inr (.inr (.inl ⟨h, rfl⟩)))
  · exact .inr (.inr (.inr (.inr ⟨h, rfl⟩)))
set_option maxRecDepth 100000 in
set_option maxHeartbeats 4000000 in
theorem A_getK {l : Launch} {G : aG} {X : aX} {cc : ByteArray} {own nm : String} {nL : Nat} {R : Room} {cs ss pc idx j a k t m d : Nat} {lv : List (Option Value)} {st : List Value} {σ : aS} {v : Value} (hX : AOk l G X cc own nm nL R) (f0 : LkF own idx 0 j) (f4 : LkF own idx 4 j) (f9 : LkF own idx 9 j) (f6 : LkF own idx 6 j) (f1 : LkF own idx 1 j) (dd : decode cc pc = .ok (.getfield idx, 3)) (hk : k ≤ 4) (h : σ.2 a = some (oK k t m d)) (hv : [Value.int (nI t), .int (nI m), .int (nI d)][j]? = some v) (kk : AA G X cs ss (pc + 3) lv (v :: st) σ) : AA G X cs ss pc lv (.ref a :: st) σ := by
  rcases oK_get hk h with ⟨e, -⟩ | ⟨e, -⟩ | ⟨e, -⟩ | ⟨e, -⟩ | ⟨e, -⟩
  · exact A_getf hX f0 dd e hv kk
  · exact A_getf hX f4 dd e hv kk
  · exact A_getf hX f9 dd e hv kk
  · exact A_getf hX f6 dd e hv kk
  · exact A_getf hX f1 dd e hv kk
set_option maxRecDepth 100000 in
set_option maxHeartbeats 1000000 in
theorem ct_daysOf (l : Launch) (G : aG) {w tp nb : Nat} {B : Nat → Nat × Nat × Nat × Nat} {σ : aS} (hw : RTw G w tp nb B σ) {b : Nat} (hb : b < nb) : ACt l G yX8_daysOf cX8_daysOf 3 (some .int) 1 0 0 [.ref w, .int (nI b)] σ (dP (some (.int (nI (B b).2.2.2))) σ) := by
  obtain ⟨hwt, hnb, hok, bor, fa, fo, fn, e0, e1, e2, e3, e4, e5, e6⟩ := id hw
  refine ACt.intro (own := RX8) (nm := "daysOf") mk_X8_daysOf rfl rfl [some (.ref w), some (.int (nI b)), none] rfl (Nat.le_of_ble_eq_true rfl) (fun X hX hR => ?_)
  refine A_aload_n (pc := 0) rfl hX dX8_daysOf_0 ?_
  refine A_iload_n (pc := 1) rfl hX dX8_daysOf_1 ?_
  refine A_V1p (pc := 2) hX mk_X8_borrowerAt lv_X8_54 dX8_daysOf_2 (by repeat (first | assumption | exact aSet_s | exact aNew_s | refine lk_n ?_ (by omega) | refine lk_f (by assumption) ?_ (by omega) | refine lk_w ?_ (by omega))) (ct_borrowerAt l G hw) rfl (Nat.le_of_ble_eq_true rfl) (Nat.le_of_ble_eq_true rfl) (Nat.le_of_ble_eq_true rfl) (Nat.le_of_ble_eq_true rfl) (Nat.le_of_ble_eq_true rfl) (fun x2 σ2 h2 => ?_)
  obtain ⟨rfl, ⟨-, z⟩ | ⟨b', a, hb', hbb, rfl, ha, hobj⟩⟩ := h2
  · exact absurd ⟨nI_pos' (by omega), nI_lt hb (by omega)⟩ z
  cases (nI_eq (by omega) (by omega)).mp hbb
  refine A_astore_n (pc := 5) (lv' := [_, _, _]) hX dX8_daysOf_5 (Nat.le_of_ble_eq_true rfl) rfl rfl ?_
  refine A_aload_n (pc := 6) rfl hX dX8_daysOf_6 ?_
  refine A_ifnonnull (pc := 7) 14 hX dX8_daysOf_7 rfl ?_
  refine A_aload_n (pc := 14) rfl hX dX8_daysOf_14 ?_
  refine A_getK (pc := 15) hX fl_X8_57_0 fl_X8_57_4 fl_X8_57_9 fl_X8_57_6 fl_X8_57_1 dX8_daysOf_15 (hok b hb).1 hobj rfl ?_
  refine A_iret (pc := 18) hX hR dX8_daysOf_18 rfl rfl ?_
  exact ⟨rfl, rfl⟩
/-- what becomes of a state by n borrowers of the page, from place i on -/
def endF (B : Nat → Nat × Nat × Nat × Nat) (cd : Nat → Nat) : Nat → Nat → Nat → Nat
  | 0, _, s => s
  | n + 1, i, s => endF B cd n (i + 1) (mkB B (cd i - 48) s)
def okR (nb : Nat) (cd : Nat → Nat) (len : Nat) : Prop := ∀ j, j < len → 48 ≤ cd j ∧ cd j < 48 + nb
theorem endF_lt {nb : Nat} {B : Nat → Nat × Nat × Nat × Nat} {cd : Nat → Nat} {len : Nat} (h : okB nb B) (hr : okR nb cd len) : ∀ n i s, n + i ≤ len → s < 512 → endF B cd n i s < 512
  | 0, _, _, _, hs => hs
  | n + 1, i, s, hn, hs => endF_lt h hr n (i + 1) _ (by omega) (mkB_lt h (by have := hr i (by omega); omega) hs)
theorem isRnB_ok {nb : Nat} {cd : Nat → Nat} {len : Nat} (h : isRnB nb cd len = true) : okR nb cd len := by
  obtain ⟨h1, h2⟩ := of_decide_eq_true h
  intro j hj
  have := of_decide_eq_true (flt_all (fitR nb cd) len 0 h2 j (Nat.zero_le _) hj)
  exact this.2
set_option maxRecDepth 100000 in
set_option maxHeartbeats 1000000 in
theorem ct_endOf (l : Launch) (G : aG) {w tp nb : Nat} {B : Nat → Nat × Nat × Nat × Nat} {σ : aS} (hw : RTw G w tp nb B σ) {p len : Nat} {cd : Nat → Nat} (hp : RPg G p len cd σ) (hr : okR nb cd len) {s : Nat} (hs : s < 512) : ACt l G yX8_endOf cX8_endOf 5 (some .int) 2 0 0 [.ref w, .ref p, .int (nI s)] σ (dP (some (.int (nI (endF B cd len 0 s)))) σ) := by
  obtain ⟨hwt, hnb, hok, bor, fa, fo, fn, e0, e1, e2, e3, e4, e5, e6⟩ := id hw
  obtain ⟨f, h0, h1, hlen, hcd⟩ := id hp
  refine ACt.intro (own := RX8) (nm := "endOf") mk_X8_endOf rfl rfl [some (.ref w), some (.ref p), some (.int (nI s)), none, none] rfl (Nat.le_of_ble_eq_true rfl) (fun X hX hR => ?_)
  refine A_iload_n (pc := 0) rfl hX dX8_endOf_0 ?_
  refine A_istore_n (pc := 1) (lv' := [_, _, _, _, _]) hX dX8_endOf_1 (Nat.le_of_ble_eq_true rfl) rfl rfl ?_
  refine A_iconst (pc := 2) (v := (nI 0)) (by decide) hX dX8_endOf_2 ?_
  refine A_istore (pc := 3) (lv' := [_, _, _, _, _]) hX dX8_endOf_3 (Nat.le_of_ble_eq_true rfl) rfl rfl ?_
  suffices hl : ∀ (m i s1 : Nat), i ≤ len → len - i = m → s1 < 512 → endF B cd m i s1 = endF B cd len 0 s → AA G X 0 0 5 [some (.ref w), some (.ref p), some (.int (nI s)), some (.int (nI s1)), some (.int (nI i))] [] σ from hl len 0 s (Nat.zero_le _) (by omega) hs rfl
  intro m
  induction m with
  | zero =>
    intro i s1 hi hm hs1 hf
    refine A_iload (pc := 5) rfl hX dX8_endOf_5 ?_
    refine A_aload_n (pc := 7) rfl hX dX8_endOf_7 ?_
    refine A_getf (pc := 8) hX fl_X8_60_2 dX8_endOf_8 (by repeat (first | assumption | exact aSet_s | exact aNew_s | refine lk_n ?_ (by omega) | refine lk_f (by assumption) ?_ (by omega) | refine lk_w ?_ (by omega))) (by exact rfl) ?_
    refine A_icmp_ge (pc := 11) 32 hX dX8_endOf_11 rfl (fun c11 => ?_) (fun c11 => ?_)
    · refine A_iload_n (pc := 32) rfl hX dX8_endOf_32 ?_
      refine A_iret (pc := 33) hX hR dX8_endOf_33 rfl rfl ?_
      exact ⟨by rw [← hf]; rfl, rfl⟩
    · exact absurd (nI_le (by omega) (by omega)) c11
  | succ m ih =>
    intro i s1 hi hm hs1 hf
    have hlt : i < len := by omega
    have hri := hr i hlt
    refine A_iload (pc := 5) rfl hX dX8_endOf_5 ?_
    refine A_aload_n (pc := 7) rfl hX dX8_endOf_7 ?_
    refine A_getf (pc := 8) hX fl_X8_60_2 dX8_endOf_8 (by repeat (first | assumption | exact aSet_s | exact aNew_s | refine lk_n ?_ (by omega) | refine lk_f (by assumption) ?_ (by omega) | refine lk_w ?_ (by omega))) (by exact rfl) ?_
    refine A_icmp_ge (pc := 11) 32 hX dX8_endOf_11 rfl (fun c11 => ?_) (fun c11 => ?_)
    · exact absurd c11 (nI_ge hlt (by omega))
    · refine A_aload_n (pc := 14) rfl hX dX8_endOf_14 ?_
      refine A_aload_n (pc := 15) rfl hX dX8_endOf_15 ?_
      refine A_iload (pc := 16) rfl hX dX8_endOf_16 ?_
      refine A_V1d (pc := 18) hX mk_X2_digitAt lv_X8_63 dX8_endOf_18 (by repeat (first | assumption | exact aSet_s | exact aNew_s | refine lk_n ?_ (by omega) | refine lk_f (by assumption) ?_ (by omega) | refine lk_w ?_ (by omega))) (ct_Pg_digitAt l G hp hlt) rfl (Nat.le_of_ble_eq_true rfl) (Nat.le_of_ble_eq_true rfl) (Nat.le_of_ble_eq_true rfl) (Nat.le_of_ble_eq_true rfl) (Nat.le_of_ble_eq_true rfl) ?_
      refine A_top (y := nI (cd i - 48)) (pk_sub hri.1) ?_
      refine A_iload_n (pc := 21) rfl hX dX8_endOf_21 ?_
      refine A_V2d (pc := 22) hX mk_X8_after lv_X8_66 dX8_endOf_22 (by repeat (first | assumption | exact aSet_s | exact aNew_s | refine lk_n ?_ (by omega) | refine lk_f (by assumption) ?_ (by omega) | refine lk_w ?_ (by omega))) (ct_after l G hw (b := cd i - 48) (by omega) hs1) rfl (Nat.le_of_ble_eq_true rfl) (Nat.le_of_ble_eq_true rfl) (Nat.le_of_ble_eq_true rfl) (Nat.le_of_ble_eq_true rfl) (Nat.le_of_ble_eq_true rfl) ?_
      refine A_istore_n (pc := 25) (lv' := [_, _, _, _, _]) hX dX8_endOf_25 (Nat.le_of_ble_eq_true rfl) rfl rfl ?_
      refine A_iinc (pc := 26) (v := (nI (i + 1))) (lv' := [_, _, _, _, _]) hX dX8_endOf_26 rfl (nI_succ i).symm rfl rfl ?_
      refine A_goto (pc := 29) 5 hX dX8_endOf_29 rfl ?_
      exact ih (i + 1) _ (by omega) (by omega) (mkB_lt hok (by omega) hs1) hf
def allN (f : Nat → Nat) : Nat → Bool
  | 0 => true
  | n + 1 => allN f n && decide (f n = n)
def allB (f : Nat → Nat) : Bool := allN f 512
theorem allN_iff {f : Nat → Nat} : ∀ {n : Nat}, allN f n = true ↔ ∀ s, s < n → f s = s
  | 0 => ⟨fun _ s hs => absurd hs (by omega), fun _ => rfl⟩
  | n + 1 => by
    rw [allN, Bool.and_eq_true, allN_iff (n := n), decide_eq_true_iff]
    constructor
    · rintro ⟨h1, h2⟩ s hs
      rcases Nat.lt_or_ge s n with q | q
      · exact h1 s q
      · rw [show s = n by omega]; exact h2
    · exact fun h => ⟨fun s hs => h s (by omega), h n (by omega)⟩
def bk (once : Nat → Nat) : Nat → Nat → (Nat → Nat) → Int32
  | 0, _, _ => -1
  | n + 1, k, now => if allB (fun s => once (now s)) = true then nI k else bk once n (k + 1) (fun s => once (now s))
def backOf (once : Nat → Nat) : Int32 := bk once 60 1 (fun s => s)
set_option maxRecDepth 100000 in
set_option maxHeartbeats 1000000 in
theorem ct_areAllBack (l : Launch) (G : aG) {w : Nat} {v0 v1 v4 : Value} {fo fn : Nat → Int32} {on nw : Nat → Nat} {σ : aS} (e0 : σ.2 w = some (aO 8 [v0, v1, .ref (w + 3), .ref (w + 4), v4])) (e3 : σ.2 (w + 3) = some (aI G 512 fo)) (e4 : σ.2 (w + 4) = some (aI G 512 fn)) (ho : ∀ s, s < 512 → fo s = nI (on s) ∧ on s < 512) (hn : ∀ s, s < 512 → fn s = nI (nw s) ∧ nw s < 512) : ACt l G yX8_areAllBackAfterOneMore cX8_areAllBackAfterOneMore 4 (some (.boolean)) 1 0 0 [.ref w] σ (iP (fun x σ' => x = bI (allB (fun s => on (nw s))) ∧ Fr (w + 4) (w + 5) σ σ' ∧ ∃ fn', σ'.2 (w + 4) = some (aI G 512 fn') ∧ ∀ s, s < 512 → fn' s = nI (on (nw s)) ∧ on (nw s) < 512)) := by
  refine ACt.intro (own := RX8) (nm := "areAllBackAfterOneMore") mk_X8_areAllBackAfterOneMore rfl rfl [some (.ref w), none, none, none] rfl (Nat.le_of_ble_eq_true rfl) (fun X hX hR => ?_)
  refine A_iconst (pc := 0) (v := (nI 1)) (by decide) hX dX8_areAllBackAfterOneMore_0 ?_
  refine A_istore_n (pc := 1) (lv' := [_, _, _, _]) hX dX8_areAllBackAfterOneMore_1 (Nat.le_of_ble_eq_true rfl) rfl rfl ?_
  refine A_iconst (pc := 2) (v := (nI 0)) (by decide) hX dX8_areAllBackAfterOneMore_2 ?_
  refine A_istore_n (pc := 3) (lv' := [_, _, _, _]) hX dX8_areAllBackAfterOneMore_3 (Nat.le_of_ble_eq_true rfl) rfl rfl ?_
  suffices hl : ∀ (m i : Nat) (v3 : Option Value) (σ1 : aS) (f1 : Nat → Int32), i ≤ 512 → 512 - i = m → Fr (w + 4) (w + 5) σ σ1 → σ1.2 (w + 4) = some (aI G 512 f1) → (∀ s, s < i → f1 s = nI (on (nw s))) → (∀ s, i ≤ s → f1 s = fn s) → AA G X 0 0 4 [some (.ref w), some (.int (bI (allN (fun s => on (nw s)) i))), some (.int (nI i)), v3] [] σ1 from by
    have := hl 512 0 none σ fn (by omega) rfl Fr.rf e4 (fun s hs => absurd hs (by omega)) (fun _ _ => rfl)
    exact this
  intro m
  induction m with
  | zero =>
    intro i v3 σ1 f1 hi hm hF h1 h2 h3
    have e : i = 512 := by omega
    subst e
    refine A_iload_n (pc := 4) rfl hX dX8_areAllBackAfterOneMore_4 ?_
    refine A_sipush (pc := 5) (v := (nI 512)) (by decide) hX dX8_areAllBackAfterOneMore_5 ?_
    refine A_icmp_ge (pc := 8) 57 hX dX8_areAllBackAfterOneMore_8 rfl (fun c8 => ?_) (fun c8 => ?_)
    · refine A_iload_n (pc := 57) rfl hX dX8_areAllBackAfterOneMore_57 ?_
      refine A_iret (pc := 58) hX hR dX8_areAllBackAfterOneMore_58 rfl (bI_z _) ?_
      exact ⟨_, rfl, rfl, hF, f1, h1, fun s hs => ⟨h2 s hs, (ho _ (hn s hs).2).2⟩⟩
    · exact absurd (nI_le (by omega) (by omega)) c8
  | succ m ih =>
    intro i v3 σ1 f1 hi hm hF h1 h2 h3
    have hlt : i < 512 := by omega
    refine A_iload_n (pc := 4) rfl hX dX8_areAllBackAfterOneMore_4 ?_
    refine A_sipush (pc := 5) (v := (nI 512)) (by decide) hX dX8_areAllBackAfterOneMore_5 ?_
    refine A_icmp_ge (pc := 8) 57 hX dX8_areAllBackAfterOneMore_8 rfl (fun c8 => ?_) (fun c8 => ?_)
    · exact absurd c8 (nI_ge hlt (by omega))
    · refine A_aload_n (pc := 11) rfl hX dX8_areAllBackAfterOneMore_11 ?_
      refine A_getf (pc := 12) hX fl_X8_21_8 dX8_areAllBackAfterOneMore_12 (by repeat (first | assumption | exact aSet_s | exact aNew_s | refine lk_n ?_ (by omega) | refine lk_f (by assumption) ?_ (by omega) | refine lk_w ?_ (by omega))) (by exact rfl) ?_
      refine A_aload_n (pc := 15) rfl hX dX8_areAllBackAfterOneMore_15 ?_
      refine A_getf (pc := 16) hX fl_X8_24_8 dX8_areAllBackAfterOneMore_16 (by repeat (first | assumption | exact aSet_s | exact aNew_s | refine lk_n ?_ (by omega) | refine lk_f (by assumption) ?_ (by omega) | refine lk_w ?_ (by omega))) (by exact rfl) ?_
      refine A_iload_n (pc := 19) rfl hX dX8_areAllBackAfterOneMore_19 ?_
      refine A_S2d (pc := 20) hX mk_X11_at ls_X8_77 dX8_areAllBackAfterOneMore_20 (ct_at l G (by repeat (first | assumption | exact aSet_s | exact aNew_s | refine lk_n ?_ (by omega) | refine lk_f (by assumption) ?_ (by omega) | refine lk_w ?_ (by omega))) (by decide)) rfl (Nat.le_of_ble_eq_true rfl) (Nat.le_of_ble_eq_true rfl) (Nat.le_of_ble_eq_true rfl) (Nat.le_of_ble_eq_true rfl) (Nat.le_of_ble_eq_true rfl) ?_
      refine A_top (y := nI (nw i)) (by rw [atS_nI (by omega) (by decide), h3 i (by omega), (hn i hlt).1]) ?_
      refine A_S2d (pc := 23) hX mk_X11_at ls_X8_77 dX8_areAllBackAfterOneMore_23 (ct_at l G (by repeat (first | assumption | exact aSet_s | exact aNew_s | refine lk_n ?_ (by omega) | refine lk_f (by assumption) ?_ (by omega) | refine lk_w ?_ (by omega))) (by decide)) rfl (Nat.le_of_ble_eq_true rfl) (Nat.le_of_ble_eq_true rfl) (Nat.le_of_ble_eq_true rfl) (Nat.le_of_ble_eq_true rfl) (Nat.le_of_ble_eq_true rfl) ?_
      refine A_top (y := nI (on (nw i))) (by rw [atS_nI (hn i hlt).2 (by decide), (ho _ (hn i hlt).2).1]) ?_
      refine A_istore_n (pc := 26) (lv' := [_, _, _, _]) hX dX8_areAllBackAfterOneMore_26 (Nat.le_of_ble_eq_true rfl) rfl rfl ?_
      refine A_aload_n (pc := 27) rfl hX dX8_areAllBackAfterOneMore_27 ?_
      refine A_getf (pc := 28) hX fl_X8_24_8 dX8_areAllBackAfterOneMore_28 (by repeat (first | assumption | exact aSet_s | exact aNew_s | refine lk_n ?_ (by omega) | refine lk_f (by assumption) ?_ (by omega) | refine lk_w ?_ (by omega))) (by exact rfl) ?_
      refine A_iload_n (pc := 31) rfl hX dX8_areAllBackAfterOneMore_31 ?_
      refine A_iload_n (pc := 32) rfl hX dX8_areAllBackAfterOneMore_32 ?_
      refine A_S3v (pc := 33) hX mk_X11_put ls_X8_50 dX8_areAllBackAfterOneMore_33 (ct_put l G h1 (by decide)) rfl (Nat.le_of_ble_eq_true rfl) (Nat.le_of_ble_eq_true rfl) (Nat.le_of_ble_eq_true rfl) (Nat.le_of_ble_eq_true rfl) (Nat.le_of_ble_eq_true rfl) (fun σ33 h33 => ?_)
      obtain ⟨h33, hf33⟩ := h33
      refine A_iload_n (pc := 36) rfl hX dX8_areAllBackAfterOneMore_36 ?_
      refine A_if_eq (pc := 37) 49 hX dX8_areAllBackAfterOneMore_37 rfl (fun c37 => ?_) (fun c37 => ?_)
      · refine A_iconst (pc := 49) (v := (nI 0)) (by decide) hX dX8_areAllBackAfterOneMore_49 ?_
        suffices hx : ∀ b : Bool, b = allN (fun s => on (nw s)) (i + 1) → AA G X 0 0 50 [some (.ref w), some (.int (bI (allN (fun s => on (nw s)) i))), some (.int (nI i)), some (.int (nI (on (nw i))))] [.int (bI b)] σ33 from (by
          have := hx false (by rw [allN, bI_eq c37]; rfl)
          exact this)
        intro b hbb
        refine A_istore_n (pc := 50) (lv' := [_, _, _, _]) hX dX8_areAllBackAfterOneMore_50 (Nat.le_of_ble_eq_true rfl) rfl rfl ?_
        refine A_iinc (pc := 51) (v := (nI (i + 1))) (lv' := [_, _, _, _]) hX dX8_areAllBackAfterOneMore_51 rfl (nI_succ i).symm rfl rfl ?_
        refine A_goto (pc := 54) 4 hX dX8_areAllBackAfterOneMore_54 rfl ?_
        rw [hbb]
        exact ih (i + 1) _ σ33 _ (by omega) (by omega) (hF.tr (hf33.wd (by omega) (by omega))) h33 (fun s hs => by
          rw [putS_nI hlt (by decide)]
          by_cases q : s = i
          · subst q; simp [upd]
          · simp only [upd, if_neg q]; exact h2 s (by omega)) (fun s hs => by
          rw [putS_nI hlt (by decide)]
          simp only [upd, if_neg (show ¬ s = i by omega)]; exact h3 s (by omega))
      · refine A_iload_n (pc := 40) rfl hX dX8_areAllBackAfterOneMore_40 ?_
        refine A_iload_n (pc := 41) rfl hX dX8_areAllBackAfterOneMore_41 ?_
        refine A_icmp_ne (pc := 42) 49 hX dX8_areAllBackAfterOneMore_42 rfl (fun c42 => ?_) (fun c42 => ?_)
        · refine A_iconst (pc := 49) (v := (nI 0)) (by decide) hX dX8_areAllBackAfterOneMore_49 ?_
          suffices hx : ∀ b : Bool, b = allN (fun s => on (nw s)) (i + 1) → AA G X 0 0 50 [some (.ref w), some (.int (bI (allN (fun s => on (nw s)) i))), some (.int (nI i)), some (.int (nI (on (nw i))))] [.int (bI b)] σ33 from (by
            have := hx false (by rw [allN, show decide (on (nw i) = i) = false from decide_eq_false (fun q => c42 (by rw [q]))]; simp)
            exact this)
          intro b hbb
          refine A_istore_n (pc := 50) (lv' := [_, _, _, _]) hX dX8_areAllBackAfterOneMore_50 (Nat.le_of_ble_eq_true rfl) rfl rfl ?_
          refine A_iinc (pc := 51) (v := (nI (i + 1))) (lv' := [_, _, _, _]) hX dX8_areAllBackAfterOneMore_51 rfl (nI_succ i).symm rfl rfl ?_
          refine A_goto (pc := 54) 4 hX dX8_areAllBackAfterOneMore_54 rfl ?_
          rw [hbb]
          exact ih (i + 1) _ σ33 _ (by omega) (by omega) (hF.tr (hf33.wd (by omega) (by omega))) h33 (fun s hs => by
            rw [putS_nI hlt (by decide)]
            by_cases q : s = i
            · subst q; simp [upd]
            · simp only [upd, if_neg q]; exact h2 s (by omega)) (fun s hs => by
            rw [putS_nI hlt (by decide)]
            simp only [upd, if_neg (show ¬ s = i by omega)]; exact h3 s (by omega))
        · refine A_iconst (pc := 45) (v := (nI 1)) (by decide) hX dX8_areAllBackAfterOneMore_45 ?_
          refine A_goto (pc := 46) 50 hX dX8_areAllBackAfterOneMore_46 rfl ?_
          suffices hx : ∀ b : Bool, b = allN (fun s => on (nw s)) (i + 1) → AA G X 0 0 50 [some (.ref w), some (.int (bI (allN (fun s => on (nw s)) i))), some (.int (nI i)), some (.int (nI (on (nw i))))] [.int (bI b)] σ33 from (by
            have := hx true (by rw [allN, bI_ne c37, show decide (on (nw i) = i) = true from decide_eq_true ((nI_eq (by have := (ho _ (hn i hlt).2).2; omega) (by omega)).mp c42)]; rfl)
            exact this)
          intro b hbb
          refine A_istore_n (pc := 50) (lv' := [_, _, _, _]) hX dX8_areAllBackAfterOneMore_50 (Nat.le_of_ble_eq_true rfl) rfl rfl ?_
          refine A_iinc (pc := 51) (v := (nI (i + 1))) (lv' := [_, _, _, _]) hX dX8_areAllBackAfterOneMore_51 rfl (nI_succ i).symm rfl rfl ?_
          refine A_goto (pc := 54) 4 hX dX8_areAllBackAfterOneMore_54 rfl ?_
          rw [hbb]
          exact ih (i + 1) _ σ33 _ (by omega) (by omega) (hF.tr (hf33.wd (by omega) (by omega))) h33 (fun s hs => by
            rw [putS_nI hlt (by decide)]
            by_cases q : s = i
            · subst q; simp [upd]
            · simp only [upd, if_neg q]; exact h2 s (by omega)) (fun s hs => by
            rw [putS_nI hlt (by decide)]
            simp only [upd, if_neg (show ¬ s = i by omega)]; exact h3 s (by omega))
theorem RTw.put34 {G : aG} {w tp nb : Nat} {B : Nat → Nat × Nat × Nat × Nat} {σ σ' : aS} {fo fn : Nat → Int32} (h : RTw G w tp nb B σ) (hF : Fr (w + 3) (w + 5) σ σ') (h3 : σ'.2 (w + 3) = some (aI G 512 fo)) (h4 : σ'.2 (w + 4) = some (aI G 512 fn)) : RTw G w tp nb B σ' := by
  obtain ⟨h1, h2, h5, bor, fa, fo0, fn0, e0, e1, e2, e3, e4, e5, e6⟩ := h
  refine ⟨h1, h2, h5, bor, fa, fo, fn, lk_f hF e0 (by omega), lk_f hF e1 (by omega), lk_f hF e2 (by omega), h3, h4, fun b hb => ?_, e6⟩
  obtain ⟨a, a1, a2, a3⟩ := e5 b hb
  exact ⟨a, a1, a2, lk_f hF a3 (by omega)⟩
set_option maxRecDepth 100000 in
set_option maxHeartbeats 1000000 in
theorem ct_timesUntilBack (l : Launch) (G : aG) {w tp nb : Nat} {B : Nat → Nat × Nat × Nat × Nat} {σ : aS} (hw : RTw G w tp nb B σ) {p len : Nat} {cd : Nat → Nat} (hp : RPg G p len cd σ) (hr : okR nb cd len) (hpw : p + 2 ≤ w) : ACt l G yX8_timesUntilBack cX8_timesUntilBack 3 (some .int) 3 0 0 [.ref w, .ref p] σ (iP (fun x σ' => x = backOf (fun s => endF B cd len 0 s) ∧ Fr (w + 3) (w + 5) σ σ' ∧ RTw G w tp nb B σ')) := by
  obtain ⟨hwt, hnb, hok, bor, fa, fo, fn, e0, e1, e2, e3, e4, e5, e6⟩ := id hw
  obtain ⟨f, h0, h1, hlen, hcd⟩ := id hp
  have hon : ∀ s, s < 512 → endF B cd len 0 s < 512 := fun s hs => endF_lt hok hr len 0 s (by omega) hs
  refine ACt.intro (own := RX8) (nm := "timesUntilBack") mk_X8_timesUntilBack rfl rfl [some (.ref w), some (.ref p), none] rfl (Nat.le_of_ble_eq_true rfl) (fun X hX hR => ?_)
  refine A_iconst (pc := 0) (v := (nI 0)) (by decide) hX dX8_timesUntilBack_0 ?_
  refine A_istore_n (pc := 1) (lv' := [_, _, _]) hX dX8_timesUntilBack_1 (Nat.le_of_ble_eq_true rfl) rfl rfl ?_
  suffices hl : ∀ (m i : Nat) (σ1 : aS) (f1 f2 : Nat → Int32), i ≤ 512 → 512 - i = m → Fr (w + 3) (w + 5) σ σ1 → σ1.2 (w + 3) = some (aI G 512 f1) → σ1.2 (w + 4) = some (aI G 512 f2) → (∀ s, s < i → f1 s = nI (endF B cd len 0 s) ∧ f2 s = nI s) → AA G X 0 0 2 [some (.ref w), some (.ref p), some (.int (nI i))] [] σ1 from hl 512 0 σ fo fn (by omega) rfl Fr.rf e3 e4 (fun s hs => absurd hs (by omega))
  intro m
  induction m with
  | zero =>
    intro i σ1 f1 f2 hi hm hF g3 g4 g5
    have e : i = 512 := by omega
    subst e
    refine A_iload_n (pc := 2) rfl hX dX8_timesUntilBack_2 ?_
    refine A_sipush (pc := 3) (v := (nI 512)) (by decide) hX dX8_timesUntilBack_3 ?_
    refine A_icmp_ge (pc := 6) 38 hX dX8_timesUntilBack_6 rfl (fun c6 => ?_) (fun c6 => ?_)
    · refine A_iconst (pc := 38) (v := (nI 1)) (by decide) hX dX8_timesUntilBack_38 ?_
      refine A_istore_n (pc := 39) (lv' := [_, _, _]) hX dX8_timesUntilBack_39 (Nat.le_of_ble_eq_true rfl) rfl rfl ?_
      suffices hl2 : ∀ (n k : Nat) (nw : Nat → Nat) (σ2 : aS) (f3 : Nat → Int32), k + n = 61 → Fr (w + 3) (w + 5) σ σ2 → σ2.2 (w + 3) = some (aI G 512 f1) → σ2.2 (w + 4) = some (aI G 512 f3) → (∀ s, s < 512 → f3 s = nI (nw s) ∧ nw s < 512) → bk (fun s => endF B cd len 0 s) n k nw = backOf (fun s => endF B cd len 0 s) → AA G X 0 0 40 [some (.ref w), some (.ref p), some (.int (nI k))] [] σ2 from hl2 60 1 (fun s => s) σ1 f2 rfl hF g3 g4 (fun s hs => ⟨(g5 s hs).2, hs⟩) rfl
      intro n
      induction n with
      | zero =>
        intro k nw σ2 f3 hk hF2 k3 k4 k5 hbk
        refine A_iload_n (pc := 40) rfl hX dX8_timesUntilBack_40 ?_
        refine A_bipush (pc := 41) (v := (nI 60)) (by decide) hX dX8_timesUntilBack_41 ?_
        refine A_icmp_gt (pc := 43) 61 hX dX8_timesUntilBack_43 rfl (fun c43 => ?_) (fun c43 => ?_)
        · refine A_iconst (pc := 61) (v := (-1)) (by decide) hX dX8_timesUntilBack_61 ?_
          refine A_iret (pc := 62) hX hR dX8_timesUntilBack_62 rfl rfl ?_
          exact ⟨_, rfl, by rw [← hbk]; rfl, hF2, hw.put34 hF2 k3 k4⟩
        · exact absurd (nI_lt (show 60 < k by omega) (by omega)) c43
      | succ n ih2 =>
        intro k nw σ2 f3 hk hF2 k3 k4 k5 hbk
        rw [bk] at hbk
        refine A_iload_n (pc := 40) rfl hX dX8_timesUntilBack_40 ?_
        refine A_bipush (pc := 41) (v := (nI 60)) (by decide) hX dX8_timesUntilBack_41 ?_
        refine A_icmp_gt (pc := 43) 61 hX dX8_timesUntilBack_43 rfl (fun c43 => ?_) (fun c43 => ?_)
        · exact absurd c43 (nI_nlt (by omega) (by decide))
        · refine A_aload_n (pc := 46) rfl hX dX8_timesUntilBack_46 ?_
          refine A_V0i (pc := 47) hX mk_X8_areAllBackAfterOneMore lv_X8_73 dX8_timesUntilBack_47 (by repeat (first | assumption | exact aSet_s | exact aNew_s | refine lk_n ?_ (by omega) | refine lk_f (by assumption) ?_ (by omega) | refine lk_w ?_ (by omega))) (ct_areAllBack l G (lk_f hF2 e0 (by omega)) k3 k4 (fun s hs => ⟨(g5 s hs).1, hon s hs⟩) k5) rfl (Nat.le_of_ble_eq_true rfl) (Nat.le_of_ble_eq_true rfl) (Nat.le_of_ble_eq_true rfl) (Nat.le_of_ble_eq_true rfl) (Nat.le_of_ble_eq_true rfl) (fun x47 σ47 h47 => ?_)
          obtain ⟨rfl, hF47, fn4, h4, hn4⟩ := h47
          refine A_if_eq (pc := 50) 55 hX dX8_timesUntilBack_50 rfl (fun c50 => ?_) (fun c50 => ?_)
          · refine A_iinc (pc := 55) (v := (nI (k + 1))) (lv' := [_, _, _]) hX dX8_timesUntilBack_55 rfl (nI_succ k).symm rfl rfl ?_
            refine A_goto (pc := 58) 40 hX dX8_timesUntilBack_58 rfl ?_
            exact ih2 (k + 1) _ _ _ (by omega) (hF2.tr (hF47.wd (by omega) (by omega))) (lk_f hF47 k3 (by omega)) h4 hn4 (by rw [if_neg (by rw [bI_eq c50]; decide)] at hbk; exact hbk)
          · refine A_iload_n (pc := 53) rfl hX dX8_timesUntilBack_53 ?_
            refine A_iret (pc := 54) hX hR dX8_timesUntilBack_54 rfl rfl ?_
            exact ⟨_, rfl, by rw [if_pos (bI_ne c50)] at hbk; exact hbk, hF2.tr (hF47.wd (by omega) (by omega)), hw.put34 (hF2.tr (hF47.wd (by omega) (by omega))) (lk_f hF47 k3 (by omega)) h4⟩
    · exact absurd (nI_le (by omega) (by omega)) c6
  | succ m ih =>
    intro i σ1 f1 f2 hi hm hF g3 g4 g5
    have hlt : i < 512 := by omega
    have hwi := hw.put34 hF g3 g4
    have hpi := hp.fr hF (.inr (by omega))
    refine A_iload_n (pc := 2) rfl hX dX8_timesUntilBack_2 ?_
    refine A_sipush (pc := 3) (v := (nI 512)) (by decide) hX dX8_timesUntilBack_3 ?_
    refine A_icmp_ge (pc := 6) 38 hX dX8_timesUntilBack_6 rfl (fun c6 => ?_) (fun c6 => ?_)
    · exact absurd c6 (nI_ge hlt (by omega))
    · refine A_aload_n (pc := 9) rfl hX dX8_timesUntilBack_9 ?_
      refine A_getf (pc := 10) hX fl_X8_21_8 dX8_timesUntilBack_10 (by repeat (first | assumption | exact aSet_s | exact aNew_s | refine lk_n ?_ (by omega) | refine lk_f (by assumption) ?_ (by omega) | refine lk_w ?_ (by omega))) (by exact rfl) ?_
      refine A_iload_n (pc := 13) rfl hX dX8_timesUntilBack_13 ?_
      refine A_aload_n (pc := 14) rfl hX dX8_timesUntilBack_14 ?_
      refine A_aload_n (pc := 15) rfl hX dX8_timesUntilBack_15 ?_
      refine A_iload_n (pc := 16) rfl hX dX8_timesUntilBack_16 ?_
      refine A_V2d (pc := 17) hX mk_X8_endOf lv_X8_69 dX8_timesUntilBack_17 (by repeat (first | assumption | exact aSet_s | exact aNew_s | refine lk_n ?_ (by omega) | refine lk_f (by assumption) ?_ (by omega) | refine lk_w ?_ (by omega))) (ct_endOf l G hwi hpi hr hlt) rfl (Nat.le_of_ble_eq_true rfl) (Nat.le_of_ble_eq_true rfl) (Nat.le_of_ble_eq_true rfl) (Nat.le_of_ble_eq_true rfl) (Nat.le_of_ble_eq_true rfl) ?_
      refine A_S3v (pc := 20) hX mk_X11_put ls_X8_50 dX8_timesUntilBack_20 (ct_put l G g3 (by decide)) rfl (Nat.le_of_ble_eq_true rfl) (Nat.le_of_ble_eq_true rfl) (Nat.le_of_ble_eq_true rfl) (Nat.le_of_ble_eq_true rfl) (Nat.le_of_ble_eq_true rfl) (fun σ20 h20 => ?_)
      obtain ⟨h20, hf20⟩ := h20
      refine A_aload_n (pc := 23) rfl hX dX8_timesUntilBack_23 ?_
      refine A_getf (pc := 24) hX fl_X8_24_8 dX8_timesUntilBack_24 (by repeat (first | assumption | exact aSet_s | exact aNew_s | refine lk_n ?_ (by omega) | refine lk_f (by assumption) ?_ (by omega) | refine lk_w ?_ (by omega))) (by exact rfl) ?_
      refine A_iload_n (pc := 27) rfl hX dX8_timesUntilBack_27 ?_
      refine A_iload_n (pc := 28) rfl hX dX8_timesUntilBack_28 ?_
      refine A_S3v (pc := 29) hX mk_X11_put ls_X8_50 dX8_timesUntilBack_29 (ct_put l G (lk_f hf20 g4 (by omega)) (by decide)) rfl (Nat.le_of_ble_eq_true rfl) (Nat.le_of_ble_eq_true rfl) (Nat.le_of_ble_eq_true rfl) (Nat.le_of_ble_eq_true rfl) (Nat.le_of_ble_eq_true rfl) (fun σ29 h29 => ?_)
      obtain ⟨h29, hf29⟩ := h29
      refine A_iinc (pc := 32) (v := (nI (i + 1))) (lv' := [_, _, _]) hX dX8_timesUntilBack_32 rfl (nI_succ i).symm rfl rfl ?_
      refine A_goto (pc := 35) 2 hX dX8_timesUntilBack_35 rfl ?_
      refine ih (i + 1) _ _ _ (by omega) (by omega) (hF.tr ((hf20.wd (by omega) (by omega)).tr (hf29.wd (by omega) (by omega)))) (lk_f hf29 h20 (by omega)) h29 (fun s hs => ?_)
      rw [putS_nI hlt (by decide), putS_nI hlt (by decide)]
      by_cases q : s = i
      · subst q; simp [upd]
      · simp only [upd, if_neg q]
        exact g5 s (by omega)
theorem twOK {cd : Nat → Nat} {len : Nat} (h : isTwB cd len = true) : 2 ≤ (len + 1) / 5 ∧ (len + 1) / 5 ≤ 6 ∧ okB ((len + 1) / 5) (borC cd) ∧ ∀ b, b < (len + 1) / 5 → b * 5 + 3 < len ∧ (cd (b * 5) = 97 ∨ cd (b * 5) = 115 ∨ cd (b * 5) = 116 ∨ cd (b * 5) = 119 ∨ cd (b * 5) = 100) ∧ 48 ≤ cd (b * 5 + 1) ∧ 48 ≤ cd (b * 5 + 2) ∧ 48 ≤ cd (b * 5 + 3) := by
  obtain ⟨h1, h2, h3⟩ := of_decide_eq_true h
  have hf : ∀ j, j < len → fitT cd j = true := fun j hj => flt_all (fitT cd) len 0 h3 j (Nat.zero_le _) hj
  have hl := (of_decide_eq_true (hf (len - 1) (by omega))).1
  have key : ∀ b, b < (len + 1) / 5 → b * 5 + 3 < len ∧ (cd (b * 5) = 97 ∨ cd (b * 5) = 115 ∨ cd (b * 5) = 116 ∨ cd (b * 5) = 119 ∨ cd (b * 5) = 100) ∧ (48 ≤ cd (b * 5 + 1) ∧ cd (b * 5 + 1) < 51) ∧ (49 ≤ cd (b * 5 + 2) ∧ cd (b * 5 + 2) ≤ 55) ∧ (49 ≤ cd (b * 5 + 3) ∧ cd (b * 5 + 3) ≤ 53) := by
    intro b hb
    have hb3 : b * 5 + 3 < len := by omega
    have f0 := of_decide_eq_true (hf (b * 5) (by omega))
    have f1 := of_decide_eq_true (hf (b * 5 + 1) (by omega))
    have f2 := of_decide_eq_true (hf (b * 5 + 2) (by omega))
    have f3 := of_decide_eq_true (hf (b * 5 + 3) (by omega))
    exact ⟨hb3, f0.2.1 (by omega), f1.2.2.1 (by omega), f2.2.2.2.1 (by omega), f3.2.2.2.2.1 (by omega)⟩
  refine ⟨by omega, by omega, fun b hb => ?_, fun b hb => ?_⟩
  · obtain ⟨k1, k2, k3, k4, k5⟩ := key b hb
    refine ⟨?_, ?_, ?_, ?_, ?_, ?_⟩
    · simp only [borC, kindC]
      rcases k2 with e | e | e | e | e <;> rw [e] <;> decide
    all_goals (simp only [borC]; omega)
  · obtain ⟨k1, k2, k3, k4, k5⟩ := key b hb
    exact ⟨k1, k2, k3.1, by omega, by omega⟩
set_option maxRecDepth 100000 in
set_option maxHeartbeats 4000000 in
theorem A_stAft {l : Launch} {G : aG} {X : aX} {R : Room} {cs ss a s k t m d : Nat} {lv : List (Option Value)} {st : List Value} {σ : aS} (hX : AOk l G X cX8_read RX8 "read" 5 R) (hk : k ≤ 4) (ht : t < 3) (hm : m < 8) (hs : s < 512) (h : σ.2 a = some (oK k t m d)) (hlen : lv.length = 5) (hst : (st.map fun v => v.category).sum ≤ 8) (hfr : 2 ≤ R.frames) (hlo : 60 ≤ R.locals) (hc : cs ≤ R.cells) (hs2 : ss ≤ R.slots) (kk : AA G X cs ss 77 lv (.int (nI (mk k t m s)) :: st) σ) : AA G X cs ss 74 lv (.int (nI s) :: .ref a :: st) σ := by
  rcases oK_get hk h with ⟨e, rfl⟩ | ⟨e, rfl⟩ | ⟨e, rfl⟩ | ⟨e, rfl⟩ | ⟨e, rfl⟩
  · exact A_U1d (dd := 1) hX mk_X0_stateAfter lu_X8_46_0 dX8_read_74 e (ct_stateAfter_0 l G e hs ht hm) hlen hst hfr (Nat.le_trans (by decide) hlo) hc hs2 kk
  · exact A_U1d (dd := 1) hX mk_X0_stateAfter lu_X8_46_4 dX8_read_74 e (ct_stateAfter_1 l G e hs ht hm) hlen hst hfr (Nat.le_trans (by decide) hlo) hc hs2 kk
  · exact A_U1d (dd := 1) hX mk_X0_stateAfter lu_X8_46_9 dX8_read_74 e (ct_stateAfter_2 l G e hs ht hm) hlen hst hfr (Nat.le_trans (by decide) hlo) hc hs2 kk
  · exact A_U1d (dd := 1) hX mk_X6_stateAfter lu_X8_46_6 dX8_read_74 e (ct_stateAfter_3 l G e hs ht) hlen hst hfr (Nat.le_trans (by decide) hlo) hc hs2 kk
  · exact A_U1d (dd := 1) hX mk_X0_stateAfter lu_X8_46_1 dX8_read_74 e (ct_stateAfter_4 l G e hs ht hm) hlen hst hfr (Nat.le_trans (by decide) hlo) hc hs2 kk
set_option maxRecDepth 100000 in
set_option maxHeartbeats 4000000 in
theorem A_aastK {l : Launch} {G : aG} {X : aX} {cc : ByteArray} {own nm : String} {nL : Nat} {R : Room} {cs ss pc a n v k t m d : Nat} {lv : List (Option Value)} {st : List Value} {σ : aS} {f : Nat → Option Nat} {i : Int32} (hX : AOk l G X cc own nm nL R) (dd : decode cc pc = .ok (.aastore, 1)) (h : σ.2 a = some (aR G n f)) (hin : vp_in i n) (hk : k ≤ 4) (hv : σ.2 v = some (oK k t m d)) (kk : AA G X cs ss (pc + 1) lv st (aSet σ a (aR G n (va_up f i.toNatClampNeg (some v))))) : AA G X cs ss pc lv (.ref v :: .int i :: .ref a :: st) σ := by
  rcases oK_get hk hv with ⟨e, -⟩ | ⟨e, -⟩ | ⟨e, -⟩ | ⟨e, -⟩ | ⟨e, -⟩
  · exact A_aast hX dd h hin e rfl (.inl rfl) kk
  · exact A_aast hX dd h hin e rfl (.inr ca_X4_X0) kk
  · exact A_aast hX dd h hin e rfl (.inr ca_X9_X0) kk
  · exact A_aast hX dd h hin e rfl (.inr ca_X6_X0) kk
  · exact A_aast hX dd h hin e rfl (.inr ca_X1_X0) kk
set_option maxRecDepth 100000 in
set_option maxHeartbeats 1000000 in
theorem ct_read (l : Launch) (G : aG) {w tp nb0 p len : Nat} {B0 : Nat → Nat × Nat × Nat × Nat} {cd : Nat → Nat} {σ : aS} (hw : RTw G w tp nb0 B0 σ) (hp : RPg G p len cd σ) (ht : isTwB cd len = true) (hpw : p + 2 ≤ w) (htp : tp ≤ σ.1) : ACt l G yX8_read cX8_read 5 (none) 5 6 18 [.ref w, .ref p] σ (vP (fun σ' => RTw G w tp ((len + 1) / 5) (borC cd) σ' ∧ σ'.1 = σ.1 + (len + 1) / 5 ∧ ∀ a, a < σ.1 → (a < w ∨ w + 3 ≤ a) → σ'.2 a = σ.2 a)) := by
  obtain ⟨hwt, hnb0, hok0, bor, fa, fo, fn, e0, e1, e2, e3, e4, e5, e6⟩ := id hw
  obtain ⟨f, h0, h1, hlen, hcd⟩ := id hp
  obtain ⟨hn2, hn6, hok, hbs⟩ := twOK ht
  generalize hnb : (len + 1) / 5 = nb at hn2 hn6 hok hbs ⊢
  refine ACt.intro (own := RX8) (nm := "read") mk_X8_read rfl rfl [some (.ref w), some (.ref p), none, none, none] rfl (Nat.le_of_ble_eq_true rfl) (fun X hX hR => ?_)
  refine A_aload_n (pc := 0) rfl hX dX8_read_0 ?_
  refine A_aload_n (pc := 1) rfl hX dX8_read_1 ?_
  refine A_V0d (pc := 2) hX mk_X2_borrowers lv_X8_27 dX8_read_2 (by repeat (first | assumption | exact aSet_s | exact aNew_s | refine lk_n ?_ (by omega) | refine lk_f (by assumption) ?_ (by omega) | refine lk_w ?_ (by omega))) (ct_borrowers l G hp) rfl (Nat.le_of_ble_eq_true rfl) (Nat.le_of_ble_eq_true rfl) (Nat.le_of_ble_eq_true rfl) (Nat.le_of_ble_eq_true rfl) (Nat.le_of_ble_eq_true rfl) ?_
  refine A_top (y := nI nb) (by rw [hnb]) ?_
  refine A_aload_n (pc := 5) rfl hX dX8_read_5 ?_
  refine A_getf (pc := 6) hX fl_X8_11_8 dX8_read_6 (by repeat (first | assumption | exact aSet_s | exact aNew_s | refine lk_n ?_ (by omega) | refine lk_f (by assumption) ?_ (by omega) | refine lk_w ?_ (by omega))) (by exact rfl) ?_
  refine A_alenQ (pc := 9) hX dX8_read_9 (by repeat (first | assumption | exact aSet_s | exact aNew_s | refine lk_n ?_ (by omega) | refine lk_f (by assumption) ?_ (by omega) | refine lk_w ?_ (by omega))) ?_
  refine A_mmin (pc := 10) hX mm_X8_32 dX8_read_10 rfl (Nat.le_of_ble_eq_true rfl) (Nat.le_of_ble_eq_true rfl) (Nat.le_of_ble_eq_true rfl) (Nat.le_of_ble_eq_true rfl) ?_
  refine A_top (y := nI nb) (by rw [if_neg (nI_nlt hn6 (by decide))]) ?_
  refine A_putf (pc := 13) (fs' := [_, _, _, _, _]) hX pl_X8_38_8 dX8_read_13 (by repeat (first | assumption | exact aSet_s | exact aNew_s | refine lk_n ?_ (by omega) | refine lk_f (by assumption) ?_ (by omega) | refine lk_w ?_ (by omega))) (by exact Nat.le_of_ble_eq_true rfl) (by exact rfl) rfl rfl ?_
  refine A_iconst (pc := 16) (v := (nI 0)) (by decide) hX dX8_read_16 ?_
  refine A_istore_n (pc := 17) (lv' := [_, _, _, _, _]) hX dX8_read_17 (Nat.le_of_ble_eq_true rfl) rfl rfl ?_
  suffices hl : ∀ (m i : Nat) (v3 v4 : Option Value) (σ1 : aS) (bo : Nat → Option Nat) (fa1 : Nat → Int32), i ≤ nb → nb - i = m → σ1.2 w = some (aO 8 [.ref (w + 1), .ref (w + 2), .ref (w + 3), .ref (w + 4), .int (nI nb)]) → σ1.2 (w + 1) = some (aR G 6 bo) → σ1.2 (w + 2) = some (aI G 3072 fa1) → (∀ a, a < σ.1 → (a < w ∨ w + 3 ≤ a) → σ1.2 a = σ.2 a) → σ1.1 = σ.1 + i → (∀ b, b < i → ∃ a, bo b = some a ∧ tp ≤ a ∧ σ1.2 a = some (oB (borC cd) b)) → (∀ b, b < i → ∀ s, s < 512 → fa1 (b * 512 + s) = nI (mkB (borC cd) b s)) → AA G X i (3 * i) 18 [some (.ref w), some (.ref p), some (.int (nI i)), v3, v4] [] σ1 from hl nb 0 none none _ bor fa (Nat.zero_le _) rfl aSet_s (lk_n e1 (by omega)) (lk_n e2 (by omega)) (fun a _ h => aSet_n (by omega)) rfl (fun b hb => absurd hb (by omega)) (fun b hb => absurd hb (by omega))
  intro m
  induction m with
  | zero =>
    intro i v3 v4 σ1 bo fa1 hi hm a0 a1 a2 aF az ab aa
    have e : i = nb := by omega
    subst e
    refine A_iload_n (pc := 18) rfl hX dX8_read_18 ?_
    refine A_aload_n (pc := 19) rfl hX dX8_read_19 ?_
    refine A_getf (pc := 20) hX fl_X8_38_8 dX8_read_20 (by repeat (first | assumption | exact aSet_s | exact aNew_s | refine lk_n ?_ (by omega) | refine lk_f (by assumption) ?_ (by omega) | refine lk_w ?_ (by omega))) (by exact rfl) ?_
    refine A_icmp_ge (pc := 23) 92 hX dX8_read_23 rfl (fun c23 => ?_) (fun c23 => ?_)
    · refine A_widen (cs' := 6) (ss' := 18) (by omega) (by omega) ?_
      refine A_ret (pc := 92) hX hR dX8_read_92 ?_
      exact ⟨rfl, ⟨hwt, hn6, hok, bo, fa1, fo, fn, a0, a1, a2, (aF (w + 3) (by omega) (.inr (by omega))).trans e3, (aF (w + 4) (by omega) (.inr (by omega))).trans e4, ab, aa⟩, az, aF⟩
    · exact absurd (nI_le (by omega) (by omega)) c23
  | succ m ih =>
    intro i v3 v4 σ1 bo fa1 hi hm a0 a1 a2 aF az ab aa
    have hlt : i < nb := by omega
    have hpi : RPg G p len cd σ1 := hp.kept (fun a q1 q2 => aF a (by omega) (.inl (by omega)))
    refine A_dom (fun hdom => ?_)
    have hoi := hok i hlt
    refine A_iload_n (pc := 18) rfl hX dX8_read_18 ?_
    refine A_aload_n (pc := 19) rfl hX dX8_read_19 ?_
    refine A_getf (pc := 20) hX fl_X8_38_8 dX8_read_20 (by repeat (first | assumption | exact aSet_s | exact aNew_s | refine lk_n ?_ (by omega) | refine lk_f (by assumption) ?_ (by omega) | refine lk_w ?_ (by omega))) (by exact rfl) ?_
    refine A_icmp_ge (pc := 23) 92 hX dX8_read_23 rfl (fun c23 => ?_) (fun c23 => ?_)
    · exact absurd c23 (nI_ge hlt (by omega))
    · refine A_iload_n (pc := 26) rfl hX dX8_read_26 ?_
      refine A_aload_n (pc := 27) rfl hX dX8_read_27 ?_
      refine A_getf (pc := 28) hX fl_X8_11_8 dX8_read_28 (by repeat (first | assumption | exact aSet_s | exact aNew_s | refine lk_n ?_ (by omega) | refine lk_f (by assumption) ?_ (by omega) | refine lk_w ?_ (by omega))) (by exact rfl) ?_
      refine A_alenQ (pc := 31) hX dX8_read_31 (by repeat (first | assumption | exact aSet_s | exact aNew_s | refine lk_n ?_ (by omega) | refine lk_f (by assumption) ?_ (by omega) | refine lk_w ?_ (by omega))) ?_
      refine A_icmp_ge (pc := 32) 92 hX dX8_read_32 rfl (fun c32 => ?_) (fun c32 => ?_)
      · exact absurd c32 (nI_ge (show i < 6 by omega) (by decide))
      · refine A_aload_n (pc := 35) rfl hX dX8_read_35 ?_
        refine A_iload_n (pc := 36) rfl hX dX8_read_36 ?_
        refine A_V1 (pc := 37) hX mk_X2_borrowerFrom lv_X8_42 dX8_read_37 ((aF p (by omega) (.inl (by omega))).trans h0) (ct_borrowerFrom l G hpi (hbs i hlt).1 (hbs i hlt).2.1 (hbs i hlt).2.2.1 (hbs i hlt).2.2.2.1 (hbs i hlt).2.2.2.2) rfl (Nat.le_of_ble_eq_true rfl) (Nat.le_of_ble_eq_true rfl) (Nat.le_of_ble_eq_true rfl) (by show i + 1 ≤ 6; omega) (by show 3 * i + 3 ≤ 18; omega) (fun x37 σ37 h37 => ?_)
        obtain ⟨rfl, z37, g37, o37⟩ := h37
        have o37 : σ37.2 σ1.1 = some (oB (borC cd) i) := o37
        refine A_astore_n (pc := 40) (lv' := [_, _, _, _, _]) hX dX8_read_40 (Nat.le_of_ble_eq_true rfl) rfl rfl ?_
        refine A_aload_n (pc := 41) rfl hX dX8_read_41 ?_
        refine A_getf (pc := 42) hX fl_X8_11_8 dX8_read_42 ((g37 _ (by omega)).trans a0) (by exact rfl) ?_
        refine A_iload_n (pc := 45) rfl hX dX8_read_45 ?_
        refine A_aload_n (pc := 46) rfl hX dX8_read_46 ?_
        refine A_aastK (pc := 47) hX dX8_read_47 ((g37 _ (by omega)).trans a1) (vp_in_nI (by omega) (by decide)) hoi.1 o37 ?_
        rw [nI_clamp (show i < 2 ^ 31 by omega)]
        refine A_iconst (pc := 48) (v := (nI 0)) (by decide) hX dX8_read_48 ?_
        refine A_istore (pc := 49) (lv' := [_, _, _, _, _]) hX dX8_read_49 (Nat.le_of_ble_eq_true rfl) rfl rfl ?_
        suffices hj : ∀ (m2 j : Nat) (σ2 : aS) (fa2 : Nat → Int32), j ≤ 512 → 512 - j = m2 → Fr (w + 2) (w + 3) (aSet σ37 (w + 1) (aR G 6 (va_up bo i (some σ1.1)))) σ2 → σ2.2 (w + 2) = some (aI G 3072 fa2) → (∀ b s, s < 512 → (b < i ∨ (b = i ∧ s < j)) → fa2 (b * 512 + s) = nI (mkB (borC cd) b s)) → AA G X (i + 1) (3 * i + 3) 51 [some (.ref w), some (.ref p), some (.int (nI i)), some (.ref σ1.1), some (.int (nI j))] [] σ2 from hj 512 0 _ fa1 (by omega) rfl Fr.rf (lk_n ((g37 _ (by omega)).trans a2) (by omega)) (fun b s hs q => aa b (by omega) s hs)
        intro m2
        induction m2 with
        | zero =>
          intro j σ2 fa2 hj hjm jF j2 j3
          have e : j = 512 := by omega
          subst e
          refine A_iload (pc := 51) rfl hX dX8_read_51 ?_
          refine A_sipush (pc := 53) (v := (nI 512)) (by decide) hX dX8_read_53 ?_
          refine A_icmp_ge (pc := 56) 86 hX dX8_read_56 rfl (fun c56 => ?_) (fun c56 => ?_)
          · refine A_iinc (pc := 86) (v := (nI (i + 1))) (lv' := [_, _, _, _, _]) hX dX8_read_86 rfl (nI_succ i).symm rfl rfl ?_
            refine A_goto (pc := 89) 18 hX dX8_read_89 rfl ?_
            refine A_cs rfl (show 3 * i + 3 = 3 * (i + 1) by omega) (ih (i + 1) _ _ σ2 (va_up bo i (some σ1.1)) fa2 (by omega) (by omega) ?_ ?_ j2 ?_ ?_ ?_ ?_)
            · exact lk_f jF (lk_n ((g37 _ (by omega)).trans a0) (by omega)) (by omega)
            · exact lk_f jF aSet_s (by omega)
            · exact fun a q1 q2 => (jF.2 a (by omega)).trans ((aSet_n (by omega)).trans ((g37 a (by omega)).trans (aF a q1 q2)))
            · rw [jF.1]; show σ37.1 = _; omega
            · intro b hb
              by_cases q : b = i
              · subst q
                exact ⟨σ1.1, by simp [va_up], by omega, lk_f jF (lk_n o37 (by omega)) (by omega)⟩
              · obtain ⟨a, x1, x2, x3⟩ := ab b (by omega)
                have x4 := (hdom a _ x3).2
                exact ⟨a, by simp [va_up, q, x1], x2, lk_f jF (lk_n ((g37 _ (by omega)).trans x3) (by omega)) (by omega)⟩
            · exact fun b hb s hs => j3 b s hs (by omega)
          · exact absurd (nI_le (by omega) (by omega)) c56
        | succ m2 ih2 =>
          intro j σ2 fa2 hj hjm jF j2 j3
          have hjl : j < 512 := by omega
          refine A_iload (pc := 51) rfl hX dX8_read_51 ?_
          refine A_sipush (pc := 53) (v := (nI 512)) (by decide) hX dX8_read_53 ?_
          refine A_icmp_ge (pc := 56) 86 hX dX8_read_56 rfl (fun c56 => ?_) (fun c56 => ?_)
          · exact absurd c56 (nI_ge hjl (by omega))
          · refine A_aload_n (pc := 59) rfl hX dX8_read_59 ?_
            refine A_getf (pc := 60) hX fl_X8_17_8 dX8_read_60 (lk_f jF (lk_n ((g37 _ (by omega)).trans a0) (by omega)) (by omega)) (by exact rfl) ?_
            refine A_iload_n (pc := 63) rfl hX dX8_read_63 ?_
            refine A_sipush (pc := 64) (v := (nI 512)) (by decide) hX dX8_read_64 ?_
            refine A_imul (pc := 67) hX dX8_read_67 ?_
            refine A_top (y := nI (i * 512)) (pk_mul _ _) ?_
            refine A_iload (pc := 68) rfl hX dX8_read_68 ?_
            refine A_iadd (pc := 70) hX dX8_read_70 ?_
            refine A_top (y := nI (i * 512 + j)) (nI_add _ _) ?_
            refine A_aload_n (pc := 71) rfl hX dX8_read_71 ?_
            refine A_iload (pc := 72) rfl hX dX8_read_72 ?_
            refine A_stAft hX hoi.1 hoi.2.1 hoi.2.2.2.1 hjl (lk_f jF (lk_n o37 (by omega)) (by omega)) rfl (Nat.le_of_ble_eq_true rfl) (Nat.le_of_ble_eq_true rfl) (Nat.le_of_ble_eq_true rfl) (by show i + 1 ≤ 6; omega) (by show 3 * i + 3 ≤ 18; omega) ?_
            refine A_S3v (pc := 77) hX mk_X11_put ls_X8_50 dX8_read_77 (ct_put l G j2 (by decide)) rfl (Nat.le_of_ble_eq_true rfl) (Nat.le_of_ble_eq_true rfl) (Nat.le_of_ble_eq_true rfl) (by show i + 1 ≤ 6; omega) (by show 3 * i + 3 ≤ 18; omega) (fun σ77 h77 => ?_)
            obtain ⟨h77, hf77⟩ := h77
            refine A_iinc (pc := 80) (v := (nI (j + 1))) (lv' := [_, _, _, _, _]) hX dX8_read_80 rfl (nI_succ j).symm rfl rfl ?_
            refine A_goto (pc := 83) 51 hX dX8_read_83 rfl ?_
            refine ih2 (j + 1) σ77 _ (by omega) (by omega) (jF.tr hf77) h77 (fun b s hs q => ?_)
            rw [putS_nI (by omega) (by decide)]
            by_cases q2 : b = i ∧ s = j
            · obtain ⟨rfl, rfl⟩ := q2
              simp only [upd, if_pos]
              rfl
            · simp only [upd, if_neg (show ¬ b * 512 + s = i * 512 + j by omega)]
              exact j3 b s hs (by omega)
end
section
/-! the things: t the object, t + 1 .. t + 5 its rows. V: of each thing its state, who has it (-1: nobody), how long still, how often it came back -/
def RTc (G : aG) (t nt : Nat) (dy sd : Int32) (fs fh fl fr ft : Nat → Int32) (σ : aS) : Prop := σ.2 t = some (aO 7 [.ref (t + 1), .ref (t + 2), .ref (t + 3), .ref (t + 4), .int (nI nt), .int dy, .ref (t + 5), .int sd]) ∧ σ.2 (t + 1) = some (aI G 4 fs) ∧ σ.2 (t + 2) = some (aI G 4 fh) ∧ σ.2 (t + 3) = some (aI G 4 fl) ∧ σ.2 (t + 4) = some (aI G 4 fr) ∧ σ.2 (t + 5) = some (aI G 4 ft)
def lkV (nt : Nat) (V : Nat → Nat × Int32 × Int32 × Int32) (fs fh fl fr : Nat → Int32) : Prop := nt ≤ 4 ∧ ∀ i, i < nt → fs i = nI (V i).1 ∧ fh i = (V i).2.1 ∧ fl i = (V i).2.2.1 ∧ fr i = (V i).2.2.2
def RTh (G : aG) (t nt : Nat) (dy : Int32) (V : Nat → Nat × Int32 × Int32 × Int32) (σ : aS) : Prop := ∃ (sd : Int32) (fs fh fl fr ft : Nat → Int32), RTc G t nt dy sd fs fh fl fr ft σ ∧ lkV nt V fs fh fl fr
def RTy (G : aG) (t nt : Nat) (dy : Int32) (V : Nat → Nat × Int32 × Int32 × Int32) (Y : Nat → Nat) (sd : Nat) (σ : aS) : Prop := ∃ (fs fh fl fr ft : Nat → Int32), RTc G t nt dy (nI sd) fs fh fl fr ft σ ∧ lkV nt V fs fh fl fr ∧ ∀ i, i < nt → ft i = nI (Y i) ∧ Y i < 512
theorem RTy.th {G : aG} {t nt sd : Nat} {dy : Int32} {V : Nat → Nat × Int32 × Int32 × Int32} {Y : Nat → Nat} {σ : aS} (h : RTy G t nt dy V Y sd σ) : RTh G t nt dy V σ := by
  obtain ⟨fs, fh, fl, fr, ft, h1, h2, -⟩ := h
  exact ⟨_, fs, fh, fl, fr, ft, h1, h2⟩
theorem RTc.kept {G : aG} {t nt : Nat} {dy sd : Int32} {fs fh fl fr ft : Nat → Int32} {σ σ' : aS} (h : RTc G t nt dy sd fs fh fl fr ft σ) (hk : ∀ a, t ≤ a → a < t + 6 → σ'.2 a = σ.2 a) : RTc G t nt dy sd fs fh fl fr ft σ' := by
  obtain ⟨h0, h1, h2, h3, h4, h5⟩ := h
  exact ⟨(hk t (by omega) (by omega)).trans h0, (hk _ (by omega) (by omega)).trans h1, (hk _ (by omega) (by omega)).trans h2, (hk _ (by omega) (by omega)).trans h3, (hk _ (by omega) (by omega)).trans h4, (hk _ (by omega) (by omega)).trans h5⟩
theorem RTh.kept {G : aG} {t nt : Nat} {dy : Int32} {V : Nat → Nat × Int32 × Int32 × Int32} {σ σ' : aS} (h : RTh G t nt dy V σ) (hk : ∀ a, t ≤ a → a < t + 6 → σ'.2 a = σ.2 a) : RTh G t nt dy V σ' := by
  obtain ⟨sd, fs, fh, fl, fr, ft, h1, h2⟩ := h
  exact ⟨sd, fs, fh, fl, fr, ft, h1.kept hk, h2⟩
theorem RTh.fr {G : aG} {t nt lo hi : Nat} {dy : Int32} {V : Nat → Nat × Int32 × Int32 × Int32} {σ σ' : aS} (h : RTh G t nt dy V σ) (hf : Fr lo hi σ σ') (h2 : hi ≤ t ∨ t + 6 ≤ lo) : RTh G t nt dy V σ' := h.kept fun a _ _ => hf.2 a (by omega)
theorem RTy.kept {G : aG} {t nt sd : Nat} {dy : Int32} {V : Nat → Nat × Int32 × Int32 × Int32} {Y : Nat → Nat} {σ σ' : aS} (h : RTy G t nt dy V Y sd σ) (hk : ∀ a, t ≤ a → a < t + 6 → σ'.2 a = σ.2 a) : RTy G t nt dy V Y sd σ' := by
  obtain ⟨fs, fh, fl, fr, ft, h1, h2⟩ := h
  exact ⟨fs, fh, fl, fr, ft, h1.kept hk, h2⟩
def okV (nb nt : Nat) (V : Nat → Nat × Int32 × Int32 × Int32) : Prop := ∀ i, i < nt → (V i).1 < 512 ∧ ((V i).2.1 = -1 ∨ ∃ b, b < nb ∧ (V i).2.1 = nI b)
def inN (n : Nat) (x : Int32) : Bool := decide (0 ≤ x ∧ x < nI n)
theorem inN_t {n : Nat} {x : Int32} (hn : n < 2 ^ 31) (h : inN n x = true) : ∃ i, i < n ∧ x = nI i := by
  obtain ⟨h1, h2⟩ := of_decide_eq_true h
  obtain ⟨s, hs, rfl⟩ := nI_of (i_nlt.mpr h1)
  exact ⟨s, (nI_ltI hs hn).mp h2, rfl⟩
theorem inN_nI {n i : Nat} (hn : n < 2 ^ 31) (h : i < n) : inN n (nI i) = true := decide_eq_true ⟨nI_pos' (by omega), nI_lt h hn⟩
theorem nI_ne1 {i : Nat} (h : i < 2 ^ 31) : ¬ nI i = -1 := by
  intro q
  have := congrArg Int32.toInt q
  rw [nI_toInt h] at this
  have e : (-1 : Int32).toInt = -1 := by decide
  omega
def homeV (B : Nat → Nat × Nat × Nat × Nat) (v : Nat × Int32 × Int32 × Int32) : Nat := if v.2.1 = -1 then v.1 else mkB B v.2.1.toNatClampNeg v.1
theorem homeV_lt {nb nt : Nat} {B : Nat → Nat × Nat × Nat × Nat} {V : Nat → Nat × Int32 × Int32 × Int32} (hb : okB nb B) (hn : nb ≤ 6) (hv : okV nb nt V) {i : Nat} (hi : i < nt) : homeV B (V i) < 512 := by
  obtain ⟨h1, h2⟩ := hv i hi
  unfold homeV
  split
  · exact h1
  · rename_i q
    rcases h2 with h2 | ⟨b, h3, h4⟩
    · exact absurd h2 q
    · rw [h4, nI_clamp (by omega)]
      exact mkB_lt hb h3 h1
def hfind (V : Nat → Nat × Int32 × Int32 × Int32) (x : Int32) : Nat → Nat → Int32
  | 0, _ => -1
  | n + 1, i => if (V i).2.1 = x then nI i else hfind V x n (i + 1)
def heldBy (V : Nat → Nat × Int32 × Int32 × Int32) (nt : Nat) (x : Int32) : Int32 := hfind V x nt 0
theorem hfind_or (V : Nat → Nat × Int32 × Int32 × Int32) (x : Int32) : ∀ n i, hfind V x n i = -1 ∨ ∃ j, i ≤ j ∧ j < i + n ∧ hfind V x n i = nI j ∧ (V j).2.1 = x
  | 0, _ => .inl rfl
  | n + 1, i => by
    rw [hfind]
    split
    · rename_i h
      exact .inr ⟨i, Nat.le_refl _, by omega, rfl, h⟩
    · rcases hfind_or V x n (i + 1) with h | ⟨j, h1, h2, h3, h4⟩
      · exact .inl h
      · exact .inr ⟨j, by omega, by omega, h3, h4⟩
def leftAt (V : Nat → Nat × Int32 × Int32 × Int32) (nt : Nat) (x : Int32) : Int32 := if heldBy V nt x = -1 then 0 else (V (heldBy V nt x).toNatClampNeg).2.2.1
/-- one thing, a day on; whether it comes back -/
def stepV (B : Nat → Nat × Nat × Nat × Nat) (v : Nat × Int32 × Int32 × Int32) : Nat × Int32 × Int32 × Int32 := if v.2.1 = -1 then v else if v.2.2.1 - 1 = 0 then (homeV B v, -1, v.2.2.1 - 1, v.2.2.2 + 1) else (v.1, v.2.1, v.2.2.1 - 1, v.2.2.2)
def backV (v : Nat × Int32 × Int32 × Int32) : Bool := decide (¬ v.2.1 = -1 ∧ v.2.2.1 - 1 = 0)
def cntN (f : Nat → Bool) : Nat → Nat
  | 0 => 0
  | n + 1 => cntN f n + (if f n = true then 1 else 0)
def sumN (f : Nat → Nat) : Nat → Nat
  | 0 => 0
  | n + 1 => sumN f n + f n
set_option maxRecDepth 100000 in
set_option maxHeartbeats 1000000 in
theorem ct_has (l : Launch) (G : aG) {t nt : Nat} {dy : Int32} {V : Nat → Nat × Int32 × Int32 × Int32} {σ : aS} (hT : RTh G t nt dy V σ) {x : Int32} : ACt l G yX7_has cX7_has 2 (some (.boolean)) 0 0 0 [.ref t, .int x] σ (dP (some (.int (bI (inN nt x)))) σ) := by
  obtain ⟨sd, fs, fh, fl, fr, ft, ⟨a0, a1, a2, a3, a4, a5⟩, hnt, hv⟩ := id hT
  refine ACt.intro (own := RX7) (nm := "has") mk_X7_has rfl rfl [some (.ref t), some (.int x)] rfl (Nat.le_of_ble_eq_true rfl) (fun X hX hR => ?_)
  refine A_iload_n (pc := 0) rfl hX dX7_has_0 ?_
  refine A_if_lt (pc := 1) 16 hX dX7_has_1 rfl (fun c1 => ?_) (fun c1 => ?_)
  · refine A_iconst (pc := 16) (v := (nI 0)) (by decide) hX dX7_has_16 ?_
    refine A_iret (pc := 17) hX hR dX7_has_17 rfl rfl ?_
    exact bl_f (decide_eq_false fun q => i_nlt.mpr q.1 c1)
  · refine A_iload_n (pc := 4) rfl hX dX7_has_4 ?_
    refine A_aload_n (pc := 5) rfl hX dX7_has_5 ?_
    refine A_getf (pc := 6) hX fl_X7_27_7 dX7_has_6 (by repeat (first | assumption | exact aSet_s | exact aNew_s | refine lk_n ?_ (by omega) | refine lk_f (by assumption) ?_ (by omega) | refine lk_w ?_ (by omega))) (by exact rfl) ?_
    refine A_icmp_ge (pc := 9) 16 hX dX7_has_9 rfl (fun c9 => ?_) (fun c9 => ?_)
    · refine A_iconst (pc := 16) (v := (nI 0)) (by decide) hX dX7_has_16 ?_
      refine A_iret (pc := 17) hX hR dX7_has_17 rfl rfl ?_
      exact bl_f (decide_eq_false fun q => i_nle.mpr q.2 c9)
    · refine A_iconst (pc := 12) (v := (nI 1)) (by decide) hX dX7_has_12 ?_
      refine A_goto (pc := 13) 17 hX dX7_has_13 rfl ?_
      refine A_iret (pc := 17) hX hR dX7_has_17 rfl rfl ?_
      exact bl_t (decide_eq_true ⟨i_nlt.mp c1, i_nle.mp c9⟩)
set_option maxRecDepth 100000 in
set_option maxHeartbeats 1000000 in
theorem ct_stateOf (l : Launch) (G : aG) {t nt : Nat} {dy : Int32} {V : Nat → Nat × Int32 × Int32 × Int32} {σ : aS} (hT : RTh G t nt dy V σ) {i : Nat} (hi : i < nt) : ACt l G yX7_stateOf cX7_stateOf 2 (some .int) 1 0 0 [.ref t, .int (nI i)] σ (dP (some (.int (nI (V i).1))) σ) := by
  obtain ⟨sd, fs, fh, fl, fr, ft, ⟨a0, a1, a2, a3, a4, a5⟩, hnt, hv⟩ := id hT
  refine ACt.intro (own := RX7) (nm := "stateOf") mk_X7_stateOf rfl rfl [some (.ref t), some (.int (nI i))] rfl (Nat.le_of_ble_eq_true rfl) (fun X hX hR => ?_)
  refine A_aload_n (pc := 0) rfl hX dX7_stateOf_0 ?_
  refine A_getf (pc := 1) hX fl_X7_9_7 dX7_stateOf_1 (by repeat (first | assumption | exact aSet_s | exact aNew_s | refine lk_n ?_ (by omega) | refine lk_f (by assumption) ?_ (by omega) | refine lk_w ?_ (by omega))) (by exact rfl) ?_
  refine A_iload_n (pc := 4) rfl hX dX7_stateOf_4 ?_
  refine A_S2d (pc := 5) hX mk_X11_at ls_X7_34 dX7_stateOf_5 (ct_at l G (by repeat (first | assumption | exact aSet_s | exact aNew_s | refine lk_n ?_ (by omega) | refine lk_f (by assumption) ?_ (by omega) | refine lk_w ?_ (by omega))) (by decide)) rfl (Nat.le_of_ble_eq_true rfl) (Nat.le_of_ble_eq_true rfl) (Nat.le_of_ble_eq_true rfl) (Nat.le_of_ble_eq_true rfl) (Nat.le_of_ble_eq_true rfl) ?_
  refine A_iret (pc := 8) hX hR dX7_stateOf_8 rfl rfl ?_
  exact ⟨by rw [atS_nI (by omega) (by decide), (hv i hi).1], rfl⟩
set_option maxRecDepth 100000 in
set_option maxHeartbeats 1000000 in
theorem ct_holderOf (l : Launch) (G : aG) {t nt : Nat} {dy : Int32} {V : Nat → Nat × Int32 × Int32 × Int32} {σ : aS} (hT : RTh G t nt dy V σ) {i : Nat} (hi : i < nt) : ACt l G yX7_holderOf cX7_holderOf 2 (some .int) 1 0 0 [.ref t, .int (nI i)] σ (dP (some (.int ((V i).2.1))) σ) := by
  obtain ⟨sd, fs, fh, fl, fr, ft, ⟨a0, a1, a2, a3, a4, a5⟩, hnt, hv⟩ := id hT
  refine ACt.intro (own := RX7) (nm := "holderOf") mk_X7_holderOf rfl rfl [some (.ref t), some (.int (nI i))] rfl (Nat.le_of_ble_eq_true rfl) (fun X hX hR => ?_)
  refine A_aload_n (pc := 0) rfl hX dX7_holderOf_0 ?_
  refine A_getf (pc := 1) hX fl_X7_15_7 dX7_holderOf_1 (by repeat (first | assumption | exact aSet_s | exact aNew_s | refine lk_n ?_ (by omega) | refine lk_f (by assumption) ?_ (by omega) | refine lk_w ?_ (by omega))) (by exact rfl) ?_
  refine A_iload_n (pc := 4) rfl hX dX7_holderOf_4 ?_
  refine A_S2d (pc := 5) hX mk_X11_at ls_X7_34 dX7_holderOf_5 (ct_at l G (by repeat (first | assumption | exact aSet_s | exact aNew_s | refine lk_n ?_ (by omega) | refine lk_f (by assumption) ?_ (by omega) | refine lk_w ?_ (by omega))) (by decide)) rfl (Nat.le_of_ble_eq_true rfl) (Nat.le_of_ble_eq_true rfl) (Nat.le_of_ble_eq_true rfl) (Nat.le_of_ble_eq_true rfl) (Nat.le_of_ble_eq_true rfl) ?_
  refine A_iret (pc := 8) hX hR dX7_holderOf_8 rfl rfl ?_
  exact ⟨by rw [atS_nI (by omega) (by decide), (hv i hi).2.1], rfl⟩
set_option maxRecDepth 100000 in
set_option maxHeartbeats 1000000 in
theorem ct_returnsOf (l : Launch) (G : aG) {t nt : Nat} {dy : Int32} {V : Nat → Nat × Int32 × Int32 × Int32} {σ : aS} (hT : RTh G t nt dy V σ) {i : Nat} (hi : i < nt) : ACt l G yX7_returnsOf cX7_returnsOf 2 (some .int) 1 0 0 [.ref t, .int (nI i)] σ (dP (some (.int ((V i).2.2.2))) σ) := by
  obtain ⟨sd, fs, fh, fl, fr, ft, ⟨a0, a1, a2, a3, a4, a5⟩, hnt, hv⟩ := id hT
  refine ACt.intro (own := RX7) (nm := "returnsOf") mk_X7_returnsOf rfl rfl [some (.ref t), some (.int (nI i))] rfl (Nat.le_of_ble_eq_true rfl) (fun X hX hR => ?_)
  refine A_aload_n (pc := 0) rfl hX dX7_returnsOf_0 ?_
  refine A_getf (pc := 1) hX fl_X7_21_7 dX7_returnsOf_1 (by repeat (first | assumption | exact aSet_s | exact aNew_s | refine lk_n ?_ (by omega) | refine lk_f (by assumption) ?_ (by omega) | refine lk_w ?_ (by omega))) (by exact rfl) ?_
  refine A_iload_n (pc := 4) rfl hX dX7_returnsOf_4 ?_
  refine A_S2d (pc := 5) hX mk_X11_at ls_X7_34 dX7_returnsOf_5 (ct_at l G (by repeat (first | assumption | exact aSet_s | exact aNew_s | refine lk_n ?_ (by omega) | refine lk_f (by assumption) ?_ (by omega) | refine lk_w ?_ (by omega))) (by decide)) rfl (Nat.le_of_ble_eq_true rfl) (Nat.le_of_ble_eq_true rfl) (Nat.le_of_ble_eq_true rfl) (Nat.le_of_ble_eq_true rfl) (Nat.le_of_ble_eq_true rfl) ?_
  refine A_iret (pc := 8) hX hR dX7_returnsOf_8 rfl rfl ?_
  exact ⟨by rw [atS_nI (by omega) (by decide), (hv i hi).2.2.2], rfl⟩
set_option maxRecDepth 100000 in
set_option maxHeartbeats 1000000 in
theorem ct_isLent (l : Launch) (G : aG) {t nt : Nat} {dy : Int32} {V : Nat → Nat × Int32 × Int32 × Int32} {σ : aS} (hT : RTh G t nt dy V σ) {i : Nat} (hi : i < nt) : ACt l G yX7_isLent cX7_isLent 2 (some (.boolean)) 1 0 0 [.ref t, .int (nI i)] σ (dP (some (.int (bI (decide (¬ (V i).2.1 = -1))))) σ) := by
  obtain ⟨sd, fs, fh, fl, fr, ft, ⟨a0, a1, a2, a3, a4, a5⟩, hnt, hv⟩ := id hT
  refine ACt.intro (own := RX7) (nm := "isLent") mk_X7_isLent rfl rfl [some (.ref t), some (.int (nI i))] rfl (Nat.le_of_ble_eq_true rfl) (fun X hX hR => ?_)
  refine A_aload_n (pc := 0) rfl hX dX7_isLent_0 ?_
  refine A_getf (pc := 1) hX fl_X7_15_7 dX7_isLent_1 (by repeat (first | assumption | exact aSet_s | exact aNew_s | refine lk_n ?_ (by omega) | refine lk_f (by assumption) ?_ (by omega) | refine lk_w ?_ (by omega))) (by exact rfl) ?_
  refine A_iload_n (pc := 4) rfl hX dX7_isLent_4 ?_
  refine A_S2d (pc := 5) hX mk_X11_at ls_X7_34 dX7_isLent_5 (ct_at l G (by repeat (first | assumption | exact aSet_s | exact aNew_s | refine lk_n ?_ (by omega) | refine lk_f (by assumption) ?_ (by omega) | refine lk_w ?_ (by omega))) (by decide)) rfl (Nat.le_of_ble_eq_true rfl) (Nat.le_of_ble_eq_true rfl) (Nat.le_of_ble_eq_true rfl) (Nat.le_of_ble_eq_true rfl) (Nat.le_of_ble_eq_true rfl) ?_
  refine A_top (y := (V i).2.1) (by rw [atS_nI (by omega) (by decide), (hv i hi).2.1]) ?_
  refine A_iconst (pc := 8) (v := (-1)) (by decide) hX dX7_isLent_8 ?_
  refine A_icmp_eq (pc := 9) 16 hX dX7_isLent_9 rfl (fun c9 => ?_) (fun c9 => ?_)
  · refine A_iconst (pc := 16) (v := (nI 0)) (by decide) hX dX7_isLent_16 ?_
    refine A_iret (pc := 17) hX hR dX7_isLent_17 rfl rfl ?_
    exact bl_f (decide_eq_false fun q => q c9)
  · refine A_iconst (pc := 12) (v := (nI 1)) (by decide) hX dX7_isLent_12 ?_
    refine A_goto (pc := 13) 17 hX dX7_isLent_13 rfl ?_
    refine A_iret (pc := 17) hX hR dX7_isLent_17 rfl rfl ?_
    exact bl_t (decide_eq_true c9)
set_option maxRecDepth 100000 in
set_option maxHeartbeats 1000000 in
theorem ct_stateAtHome (l : Launch) (G : aG) {w tp nb : Nat} {B : Nat → Nat × Nat × Nat × Nat} {t nt : Nat} {dy : Int32} {V : Nat → Nat × Int32 × Int32 × Int32} {σ : aS} (hT : RTh G t nt dy V σ) (hw : RTw G w tp nb B σ) (hV : okV nb nt V) {i : Nat} (hi : i < nt) : ACt l G yX7_stateAtHome cX7_stateAtHome 4 (some .int) 2 0 0 [.ref t, .int (nI i), .ref w] σ (dP (some (.int (nI (homeV B (V i))))) σ) := by
  obtain ⟨sd, fs, fh, fl, fr, ft, ⟨a0, a1, a2, a3, a4, a5⟩, hnt, hv⟩ := id hT
  obtain ⟨hwt, hnb, hok, bor, fa, fo, fn, e0, e1, e2, e3, e4, e5, e6⟩ := id hw
  refine ACt.intro (own := RX7) (nm := "stateAtHome") mk_X7_stateAtHome rfl rfl [some (.ref t), some (.int (nI i)), some (.ref w), none] rfl (Nat.le_of_ble_eq_true rfl) (fun X hX hR => ?_)
  refine A_aload_n (pc := 0) rfl hX dX7_stateAtHome_0 ?_
  refine A_getf (pc := 1) hX fl_X7_9_7 dX7_stateAtHome_1 (by repeat (first | assumption | exact aSet_s | exact aNew_s | refine lk_n ?_ (by omega) | refine lk_f (by assumption) ?_ (by omega) | refine lk_w ?_ (by omega))) (by exact rfl) ?_
  refine A_iload_n (pc := 4) rfl hX dX7_stateAtHome_4 ?_
  refine A_S2d (pc := 5) hX mk_X11_at ls_X7_34 dX7_stateAtHome_5 (ct_at l G (by repeat (first | assumption | exact aSet_s | exact aNew_s | refine lk_n ?_ (by omega) | refine lk_f (by assumption) ?_ (by omega) | refine lk_w ?_ (by omega))) (by decide)) rfl (Nat.le_of_ble_eq_true rfl) (Nat.le_of_ble_eq_true rfl) (Nat.le_of_ble_eq_true rfl) (Nat.le_of_ble_eq_true rfl) (Nat.le_of_ble_eq_true rfl) ?_
  refine A_top (y := nI (V i).1) (by rw [atS_nI (by omega) (by decide), (hv i hi).1]) ?_
  refine A_istore_n (pc := 8) (lv' := [_, _, _, _]) hX dX7_stateAtHome_8 (Nat.le_of_ble_eq_true rfl) rfl rfl ?_
  refine A_aload_n (pc := 9) rfl hX dX7_stateAtHome_9 ?_
  refine A_iload_n (pc := 10) rfl hX dX7_stateAtHome_10 ?_
  refine A_V1d (pc := 11) hX mk_X7_isLent lv_X7_42 dX7_stateAtHome_11 (by repeat (first | assumption | exact aSet_s | exact aNew_s | refine lk_n ?_ (by omega) | refine lk_f (by assumption) ?_ (by omega) | refine lk_w ?_ (by omega))) (ct_isLent l G hT hi) rfl (Nat.le_of_ble_eq_true rfl) (Nat.le_of_ble_eq_true rfl) (Nat.le_of_ble_eq_true rfl) (Nat.le_of_ble_eq_true rfl) (Nat.le_of_ble_eq_true rfl) ?_
  refine A_if_eq (pc := 14) 33 hX dX7_stateAtHome_14 rfl (fun c14 => ?_) (fun c14 => ?_)
  · refine A_iload_n (pc := 33) rfl hX dX7_stateAtHome_33 ?_
    refine A_iret (pc := 34) hX hR dX7_stateAtHome_34 rfl rfl ?_
    have hl : (V i).2.1 = -1 := by
      have := of_decide_eq_false (bI_eq c14)
      exact Decidable.byContradiction this
    exact ⟨by rw [homeV, if_pos hl], rfl⟩
  · have hl := of_decide_eq_true (bI_ne c14)
    obtain ⟨b, hb, hbe⟩ := (hV i hi).2.resolve_left hl
    refine A_aload_n (pc := 17) rfl hX dX7_stateAtHome_17 ?_
    refine A_aload_n (pc := 18) rfl hX dX7_stateAtHome_18 ?_
    refine A_getf (pc := 19) hX fl_X7_15_7 dX7_stateAtHome_19 (by repeat (first | assumption | exact aSet_s | exact aNew_s | refine lk_n ?_ (by omega) | refine lk_f (by assumption) ?_ (by omega) | refine lk_w ?_ (by omega))) (by exact rfl) ?_
    refine A_iload_n (pc := 22) rfl hX dX7_stateAtHome_22 ?_
    refine A_S2d (pc := 23) hX mk_X11_at ls_X7_34 dX7_stateAtHome_23 (ct_at l G (by repeat (first | assumption | exact aSet_s | exact aNew_s | refine lk_n ?_ (by omega) | refine lk_f (by assumption) ?_ (by omega) | refine lk_w ?_ (by omega))) (by decide)) rfl (Nat.le_of_ble_eq_true rfl) (Nat.le_of_ble_eq_true rfl) (Nat.le_of_ble_eq_true rfl) (Nat.le_of_ble_eq_true rfl) (Nat.le_of_ble_eq_true rfl) ?_
    refine A_top (y := nI b) (by rw [atS_nI (by omega) (by decide), (hv i hi).2.1, hbe]) ?_
    refine A_iload_n (pc := 26) rfl hX dX7_stateAtHome_26 ?_
    refine A_V2d (pc := 27) hX mk_X8_after lv_X7_46 dX7_stateAtHome_27 (by repeat (first | assumption | exact aSet_s | exact aNew_s | refine lk_n ?_ (by omega) | refine lk_f (by assumption) ?_ (by omega) | refine lk_w ?_ (by omega))) (ct_after l G hw hb (hV i hi).1) rfl (Nat.le_of_ble_eq_true rfl) (Nat.le_of_ble_eq_true rfl) (Nat.le_of_ble_eq_true rfl) (Nat.le_of_ble_eq_true rfl) (Nat.le_of_ble_eq_true rfl) ?_
    refine A_goto (pc := 30) 34 hX dX7_stateAtHome_30 rfl ?_
    refine A_iret (pc := 34) hX hR dX7_stateAtHome_34 rfl rfl ?_
    exact ⟨by rw [homeV, if_neg hl, hbe, nI_clamp (by omega)], rfl⟩
set_option maxRecDepth 100000 in
set_option maxHeartbeats 1000000 in
theorem ct_Th_empty (l : Launch) (G : aG) {t nt : Nat} {dy : Int32} {V : Nat → Nat × Int32 × Int32 × Int32} {σ : aS} (hT : RTh G t nt dy V σ) : ACt l G yX7_empty cX7_empty 1 (none) 0 0 0 [.ref t] σ (vP (fun σ' => RTh G t (0) (0) (V) σ' ∧ Fr t (t + 6) σ σ')) := by
  obtain ⟨sd, fs, fh, fl, fr, ft, ⟨a0, a1, a2, a3, a4, a5⟩, hnt, hv⟩ := id hT
  refine ACt.intro (own := RX7) (nm := "empty") mk_X7_empty rfl rfl [some (.ref t)] rfl (Nat.le_of_ble_eq_true rfl) (fun X hX hR => ?_)
  refine A_aload_n (pc := 0) rfl hX dX7_empty_0 ?_
  refine A_iconst (pc := 1) (v := (nI 0)) (by decide) hX dX7_empty_1 ?_
  refine A_putf (pc := 2) (fs' := [_, _, _, _, _, _, _, _]) hX pl_X7_27_7 dX7_empty_2 (by repeat (first | assumption | exact aSet_s | exact aNew_s | refine lk_n ?_ (by omega) | refine lk_f (by assumption) ?_ (by omega) | refine lk_w ?_ (by omega))) (by exact Nat.le_of_ble_eq_true rfl) (by exact rfl) rfl rfl ?_
  refine A_aload_n (pc := 5) rfl hX dX7_empty_5 ?_
  refine A_iconst (pc := 6) (v := (nI 0)) (by decide) hX dX7_empty_6 ?_
  refine A_putf (pc := 7) (fs' := [_, _, _, _, _, _, _, _]) hX pl_X7_31_7 dX7_empty_7 (by repeat (first | assumption | exact aSet_s | exact aNew_s | refine lk_n ?_ (by omega) | refine lk_f (by assumption) ?_ (by omega) | refine lk_w ?_ (by omega))) (by exact Nat.le_of_ble_eq_true rfl) (by exact rfl) rfl rfl ?_
  refine A_ret (pc := 10) hX hR dX7_empty_10 ?_
  exact ⟨rfl, ⟨_, _, _, _, _, _, ⟨aSet_s, (by repeat (first | assumption | exact aSet_s | exact aNew_s | refine lk_n ?_ (by omega) | refine lk_f (by assumption) ?_ (by omega) | refine lk_w ?_ (by omega))), (by repeat (first | assumption | exact aSet_s | exact aNew_s | refine lk_n ?_ (by omega) | refine lk_f (by assumption) ?_ (by omega) | refine lk_w ?_ (by omega))), (by repeat (first | assumption | exact aSet_s | exact aNew_s | refine lk_n ?_ (by omega) | refine lk_f (by assumption) ?_ (by omega) | refine lk_w ?_ (by omega))), (by repeat (first | assumption | exact aSet_s | exact aNew_s | refine lk_n ?_ (by omega) | refine lk_f (by assumption) ?_ (by omega) | refine lk_w ?_ (by omega))), (by repeat (first | assumption | exact aSet_s | exact aNew_s | refine lk_n ?_ (by omega) | refine lk_f (by assumption) ?_ (by omega) | refine lk_w ?_ (by omega)))⟩, by omega, fun i hi => absurd hi (by omega)⟩, (by repeat (first | exact Fr.rf | refine Fr.set ?_ (by omega) (by omega) | refine Fr.tr ?_ (Fr.wd (by assumption) (by omega) (by omega))))⟩
set_option maxRecDepth 100000 in
set_option maxHeartbeats 1000000 in
theorem ct_Th_add (l : Launch) (G : aG) {t nt : Nat} {dy : Int32} {V : Nat → Nat × Int32 × Int32 × Int32} {σ : aS} (hT : RTh G t nt dy V σ) {s : Nat} (hs : s < 512) (hn : nt < 4) : ACt l G yX7_add cX7_add 3 (some .int) 1 0 0 [.ref t, .int (nI s)] σ (iP (fun x σ' => x = nI nt ∧ RTh G t (nt + 1) (dy) (fun i => if i = nt then (s, -1, 0, 0) else V i) σ' ∧ Fr t (t + 6) σ σ')) := by
  obtain ⟨sd, fs, fh, fl, fr, ft, ⟨a0, a1, a2, a3, a4, a5⟩, hnt, hv⟩ := id hT
  refine ACt.intro (own := RX7) (nm := "add") mk_X7_add rfl rfl [some (.ref t), some (.int (nI s)), none] rfl (Nat.le_of_ble_eq_true rfl) (fun X hX hR => ?_)
  refine A_aload_n (pc := 0) rfl hX dX7_add_0 ?_
  refine A_getf (pc := 1) hX fl_X7_27_7 dX7_add_1 (by repeat (first | assumption | exact aSet_s | exact aNew_s | refine lk_n ?_ (by omega) | refine lk_f (by assumption) ?_ (by omega) | refine lk_w ?_ (by omega))) (by exact rfl) ?_
  refine A_istore_n (pc := 4) (lv' := [_, _, _]) hX dX7_add_4 (Nat.le_of_ble_eq_true rfl) rfl rfl ?_
  refine A_aload_n (pc := 5) rfl hX dX7_add_5 ?_
  refine A_getf (pc := 6) hX fl_X7_9_7 dX7_add_6 (by repeat (first | assumption | exact aSet_s | exact aNew_s | refine lk_n ?_ (by omega) | refine lk_f (by assumption) ?_ (by omega) | refine lk_w ?_ (by omega))) (by exact rfl) ?_
  refine A_iload_n (pc := 9) rfl hX dX7_add_9 ?_
  refine A_iload_n (pc := 10) rfl hX dX7_add_10 ?_
  refine A_S3v (pc := 11) hX mk_X11_put ls_X7_38 dX7_add_11 (ct_put l G (by repeat (first | assumption | exact aSet_s | exact aNew_s | refine lk_n ?_ (by omega) | refine lk_f (by assumption) ?_ (by omega) | refine lk_w ?_ (by omega))) (by decide)) rfl (Nat.le_of_ble_eq_true rfl) (Nat.le_of_ble_eq_true rfl) (Nat.le_of_ble_eq_true rfl) (Nat.le_of_ble_eq_true rfl) (Nat.le_of_ble_eq_true rfl) (fun σ11 h11 => ?_)
  obtain ⟨h11, hf11⟩ := h11
  refine A_aload_n (pc := 14) rfl hX dX7_add_14 ?_
  refine A_getf (pc := 15) hX fl_X7_15_7 dX7_add_15 (by repeat (first | assumption | exact aSet_s | exact aNew_s | refine lk_n ?_ (by omega) | refine lk_f (by assumption) ?_ (by omega) | refine lk_w ?_ (by omega))) (by exact rfl) ?_
  refine A_iload_n (pc := 18) rfl hX dX7_add_18 ?_
  refine A_iconst (pc := 19) (v := (-1)) (by decide) hX dX7_add_19 ?_
  refine A_S3v (pc := 20) hX mk_X11_put ls_X7_38 dX7_add_20 (ct_put l G (by repeat (first | assumption | exact aSet_s | exact aNew_s | refine lk_n ?_ (by omega) | refine lk_f (by assumption) ?_ (by omega) | refine lk_w ?_ (by omega))) (by decide)) rfl (Nat.le_of_ble_eq_true rfl) (Nat.le_of_ble_eq_true rfl) (Nat.le_of_ble_eq_true rfl) (Nat.le_of_ble_eq_true rfl) (Nat.le_of_ble_eq_true rfl) (fun σ20 h20 => ?_)
  obtain ⟨h20, hf20⟩ := h20
  refine A_aload_n (pc := 23) rfl hX dX7_add_23 ?_
  refine A_getf (pc := 24) hX fl_X7_18_7 dX7_add_24 (by repeat (first | assumption | exact aSet_s | exact aNew_s | refine lk_n ?_ (by omega) | refine lk_f (by assumption) ?_ (by omega) | refine lk_w ?_ (by omega))) (by exact rfl) ?_
  refine A_iload_n (pc := 27) rfl hX dX7_add_27 ?_
  refine A_iconst (pc := 28) (v := (nI 0)) (by decide) hX dX7_add_28 ?_
  refine A_S3v (pc := 29) hX mk_X11_put ls_X7_38 dX7_add_29 (ct_put l G (by repeat (first | assumption | exact aSet_s | exact aNew_s | refine lk_n ?_ (by omega) | refine lk_f (by assumption) ?_ (by omega) | refine lk_w ?_ (by omega))) (by decide)) rfl (Nat.le_of_ble_eq_true rfl) (Nat.le_of_ble_eq_true rfl) (Nat.le_of_ble_eq_true rfl) (Nat.le_of_ble_eq_true rfl) (Nat.le_of_ble_eq_true rfl) (fun σ29 h29 => ?_)
  obtain ⟨h29, hf29⟩ := h29
  refine A_aload_n (pc := 32) rfl hX dX7_add_32 ?_
  refine A_getf (pc := 33) hX fl_X7_21_7 dX7_add_33 (by repeat (first | assumption | exact aSet_s | exact aNew_s | refine lk_n ?_ (by omega) | refine lk_f (by assumption) ?_ (by omega) | refine lk_w ?_ (by omega))) (by exact rfl) ?_
  refine A_iload_n (pc := 36) rfl hX dX7_add_36 ?_
  refine A_iconst (pc := 37) (v := (nI 0)) (by decide) hX dX7_add_37 ?_
  refine A_S3v (pc := 38) hX mk_X11_put ls_X7_38 dX7_add_38 (ct_put l G (by repeat (first | assumption | exact aSet_s | exact aNew_s | refine lk_n ?_ (by omega) | refine lk_f (by assumption) ?_ (by omega) | refine lk_w ?_ (by omega))) (by decide)) rfl (Nat.le_of_ble_eq_true rfl) (Nat.le_of_ble_eq_true rfl) (Nat.le_of_ble_eq_true rfl) (Nat.le_of_ble_eq_true rfl) (Nat.le_of_ble_eq_true rfl) (fun σ38 h38 => ?_)
  obtain ⟨h38, hf38⟩ := h38
  refine A_aload_n (pc := 41) rfl hX dX7_add_41 ?_
  refine A_dup (pc := 42) rfl hX dX7_add_42 ?_
  refine A_getf (pc := 43) hX fl_X7_27_7 dX7_add_43 (by repeat (first | assumption | exact aSet_s | exact aNew_s | refine lk_n ?_ (by omega) | refine lk_f (by assumption) ?_ (by omega) | refine lk_w ?_ (by omega))) (by exact rfl) ?_
  refine A_iconst (pc := 46) (v := (nI 1)) (by decide) hX dX7_add_46 ?_
  refine A_iadd (pc := 47) hX dX7_add_47 ?_
  refine A_top (y := nI (nt + 1)) (nI_succ nt).symm ?_
  refine A_putf (pc := 48) (fs' := [_, _, _, _, _, _, _, _]) hX pl_X7_27_7 dX7_add_48 (by repeat (first | assumption | exact aSet_s | exact aNew_s | refine lk_n ?_ (by omega) | refine lk_f (by assumption) ?_ (by omega) | refine lk_w ?_ (by omega))) (by exact Nat.le_of_ble_eq_true rfl) (by exact rfl) rfl rfl ?_
  refine A_iload_n (pc := 51) rfl hX dX7_add_51 ?_
  refine A_iret (pc := 52) hX hR dX7_add_52 rfl rfl ?_
  refine ⟨_, rfl, rfl, ⟨_, _, _, _, _, _, ⟨aSet_s, (by repeat (first | assumption | exact aSet_s | exact aNew_s | refine lk_n ?_ (by omega) | refine lk_f (by assumption) ?_ (by omega) | refine lk_w ?_ (by omega))), (by repeat (first | assumption | exact aSet_s | exact aNew_s | refine lk_n ?_ (by omega) | refine lk_f (by assumption) ?_ (by omega) | refine lk_w ?_ (by omega))), (by repeat (first | assumption | exact aSet_s | exact aNew_s | refine lk_n ?_ (by omega) | refine lk_f (by assumption) ?_ (by omega) | refine lk_w ?_ (by omega))), (by repeat (first | assumption | exact aSet_s | exact aNew_s | refine lk_n ?_ (by omega) | refine lk_f (by assumption) ?_ (by omega) | refine lk_w ?_ (by omega))), (by repeat (first | assumption | exact aSet_s | exact aNew_s | refine lk_n ?_ (by omega) | refine lk_f (by assumption) ?_ (by omega) | refine lk_w ?_ (by omega)))⟩, by omega, fun i hi => ?_⟩, (by repeat (first | exact Fr.rf | refine Fr.set ?_ (by omega) (by omega) | refine Fr.tr ?_ (Fr.wd (by assumption) (by omega) (by omega))))⟩
  rw [putS_nI (by omega) (by decide), putS_nI (by omega) (by decide), putS_nI (by omega) (by decide), putS_nI (by omega) (by decide)]
  by_cases q : i = nt
  · subst q; simp [upd]; decide
  · simp only [upd, if_neg q]
    exact hv i (by omega)
set_option maxRecDepth 100000 in
set_option maxHeartbeats 1000000 in
theorem ct_Th_give (l : Launch) (G : aG) {t nt : Nat} {dy : Int32} {V : Nat → Nat × Int32 × Int32 × Int32} {σ : aS} (hT : RTh G t nt dy V σ) {i : Nat} {x y : Int32} (hi : i < nt) : ACt l G yX7_give cX7_give 4 (none) 1 0 0 [.ref t, .int (nI i), .int x, .int y] σ (vP (fun σ' => RTh G t (nt) (dy) (fun j => if j = i then ((V i).1, x, y, (V i).2.2.2) else V j) σ' ∧ Fr t (t + 6) σ σ')) := by
  obtain ⟨sd, fs, fh, fl, fr, ft, ⟨a0, a1, a2, a3, a4, a5⟩, hnt, hv⟩ := id hT
  refine ACt.intro (own := RX7) (nm := "give") mk_X7_give rfl rfl [some (.ref t), some (.int (nI i)), some (.int x), some (.int y)] rfl (Nat.le_of_ble_eq_true rfl) (fun X hX hR => ?_)
  refine A_aload_n (pc := 0) rfl hX dX7_give_0 ?_
  refine A_getf (pc := 1) hX fl_X7_15_7 dX7_give_1 (by repeat (first | assumption | exact aSet_s | exact aNew_s | refine lk_n ?_ (by omega) | refine lk_f (by assumption) ?_ (by omega) | refine lk_w ?_ (by omega))) (by exact rfl) ?_
  refine A_iload_n (pc := 4) rfl hX dX7_give_4 ?_
  refine A_iload_n (pc := 5) rfl hX dX7_give_5 ?_
  refine A_S3v (pc := 6) hX mk_X11_put ls_X7_38 dX7_give_6 (ct_put l G (by repeat (first | assumption | exact aSet_s | exact aNew_s | refine lk_n ?_ (by omega) | refine lk_f (by assumption) ?_ (by omega) | refine lk_w ?_ (by omega))) (by decide)) rfl (Nat.le_of_ble_eq_true rfl) (Nat.le_of_ble_eq_true rfl) (Nat.le_of_ble_eq_true rfl) (Nat.le_of_ble_eq_true rfl) (Nat.le_of_ble_eq_true rfl) (fun σ6 h6 => ?_)
  obtain ⟨h6, hf6⟩ := h6
  refine A_aload_n (pc := 9) rfl hX dX7_give_9 ?_
  refine A_getf (pc := 10) hX fl_X7_18_7 dX7_give_10 (by repeat (first | assumption | exact aSet_s | exact aNew_s | refine lk_n ?_ (by omega) | refine lk_f (by assumption) ?_ (by omega) | refine lk_w ?_ (by omega))) (by exact rfl) ?_
  refine A_iload_n (pc := 13) rfl hX dX7_give_13 ?_
  refine A_iload_n (pc := 14) rfl hX dX7_give_14 ?_
  refine A_S3v (pc := 15) hX mk_X11_put ls_X7_38 dX7_give_15 (ct_put l G (by repeat (first | assumption | exact aSet_s | exact aNew_s | refine lk_n ?_ (by omega) | refine lk_f (by assumption) ?_ (by omega) | refine lk_w ?_ (by omega))) (by decide)) rfl (Nat.le_of_ble_eq_true rfl) (Nat.le_of_ble_eq_true rfl) (Nat.le_of_ble_eq_true rfl) (Nat.le_of_ble_eq_true rfl) (Nat.le_of_ble_eq_true rfl) (fun σ15 h15 => ?_)
  obtain ⟨h15, hf15⟩ := h15
  refine A_ret (pc := 18) hX hR dX7_give_18 ?_
  refine ⟨rfl, ⟨_, _, _, _, _, _, ⟨(by repeat (first | assumption | exact aSet_s | exact aNew_s | refine lk_n ?_ (by omega) | refine lk_f (by assumption) ?_ (by omega) | refine lk_w ?_ (by omega))), (by repeat (first | assumption | exact aSet_s | exact aNew_s | refine lk_n ?_ (by omega) | refine lk_f (by assumption) ?_ (by omega) | refine lk_w ?_ (by omega))), (by repeat (first | assumption | exact aSet_s | exact aNew_s | refine lk_n ?_ (by omega) | refine lk_f (by assumption) ?_ (by omega) | refine lk_w ?_ (by omega))), (by repeat (first | assumption | exact aSet_s | exact aNew_s | refine lk_n ?_ (by omega) | refine lk_f (by assumption) ?_ (by omega) | refine lk_w ?_ (by omega))), (by repeat (first | assumption | exact aSet_s | exact aNew_s | refine lk_n ?_ (by omega) | refine lk_f (by assumption) ?_ (by omega) | refine lk_w ?_ (by omega))), (by repeat (first | assumption | exact aSet_s | exact aNew_s | refine lk_n ?_ (by omega) | refine lk_f (by assumption) ?_ (by omega) | refine lk_w ?_ (by omega)))⟩, hnt, fun j hj => ?_⟩, (by repeat (first | exact Fr.rf | refine Fr.set ?_ (by omega) (by omega) | refine Fr.tr ?_ (Fr.wd (by assumption) (by omega) (by omega))))⟩
  rw [putS_nI (by omega) (by decide), putS_nI (by omega) (by decide)]
  have h1 := hv j hj
  by_cases q : j = i
  · subst q; simp only [upd, if_pos]; exact ⟨h1.1, trivial, trivial, h1.2.2.2⟩
  · simp only [upd, if_neg q]; exact h1
set_option maxRecDepth 100000 in
set_option maxHeartbeats 1000000 in
theorem ct_numberHeldBy (l : Launch) (G : aG) {t nt : Nat} {dy : Int32} {V : Nat → Nat × Int32 × Int32 × Int32} {σ : aS} (hT : RTh G t nt dy V σ) {x : Int32} : ACt l G yX7_numberHeldBy cX7_numberHeldBy 3 (some .int) 1 0 0 [.ref t, .int x] σ (dP (some (.int (heldBy V nt x))) σ) := by
  obtain ⟨sd, fs, fh, fl, fr, ft, ⟨a0, a1, a2, a3, a4, a5⟩, hnt, hv⟩ := id hT
  refine ACt.intro (own := RX7) (nm := "numberHeldBy") mk_X7_numberHeldBy rfl rfl [some (.ref t), some (.int x), none] rfl (Nat.le_of_ble_eq_true rfl) (fun X hX hR => ?_)
  refine A_iconst (pc := 0) (v := (nI 0)) (by decide) hX dX7_numberHeldBy_0 ?_
  refine A_istore_n (pc := 1) (lv' := [_, _, _]) hX dX7_numberHeldBy_1 (Nat.le_of_ble_eq_true rfl) rfl rfl ?_
  suffices hl : ∀ (m i : Nat), i ≤ nt → nt - i = m → hfind V x m i = heldBy V nt x → AA G X 0 0 2 [some (.ref t), some (.int x), some (.int (nI i))] [] σ from hl nt 0 (Nat.zero_le _) (by omega) rfl
  intro m
  induction m with
  | zero =>
    intro i hi hm hf
    refine A_iload_n (pc := 2) rfl hX dX7_numberHeldBy_2 ?_
    refine A_aload_n (pc := 3) rfl hX dX7_numberHeldBy_3 ?_
    refine A_getf (pc := 4) hX fl_X7_27_7 dX7_numberHeldBy_4 (by repeat (first | assumption | exact aSet_s | exact aNew_s | refine lk_n ?_ (by omega) | refine lk_f (by assumption) ?_ (by omega) | refine lk_w ?_ (by omega))) (by exact rfl) ?_
    refine A_icmp_ge (pc := 7) 30 hX dX7_numberHeldBy_7 rfl (fun c7 => ?_) (fun c7 => ?_)
    · refine A_iconst (pc := 30) (v := (-1)) (by decide) hX dX7_numberHeldBy_30 ?_
      refine A_iret (pc := 31) hX hR dX7_numberHeldBy_31 rfl rfl ?_
      exact ⟨by rw [← hf]; rfl, rfl⟩
    · exact absurd (nI_le (by omega) (by omega)) c7
  | succ m ih =>
    intro i hi hm hf
    have hlt : i < nt := by omega
    rw [hfind] at hf
    refine A_iload_n (pc := 2) rfl hX dX7_numberHeldBy_2 ?_
    refine A_aload_n (pc := 3) rfl hX dX7_numberHeldBy_3 ?_
    refine A_getf (pc := 4) hX fl_X7_27_7 dX7_numberHeldBy_4 (by repeat (first | assumption | exact aSet_s | exact aNew_s | refine lk_n ?_ (by omega) | refine lk_f (by assumption) ?_ (by omega) | refine lk_w ?_ (by omega))) (by exact rfl) ?_
    refine A_icmp_ge (pc := 7) 30 hX dX7_numberHeldBy_7 rfl (fun c7 => ?_) (fun c7 => ?_)
    · exact absurd c7 (nI_ge hlt (by omega))
    · refine A_aload_n (pc := 10) rfl hX dX7_numberHeldBy_10 ?_
      refine A_getf (pc := 11) hX fl_X7_15_7 dX7_numberHeldBy_11 (by repeat (first | assumption | exact aSet_s | exact aNew_s | refine lk_n ?_ (by omega) | refine lk_f (by assumption) ?_ (by omega) | refine lk_w ?_ (by omega))) (by exact rfl) ?_
      refine A_iload_n (pc := 14) rfl hX dX7_numberHeldBy_14 ?_
      refine A_S2d (pc := 15) hX mk_X11_at ls_X7_34 dX7_numberHeldBy_15 (ct_at l G (by repeat (first | assumption | exact aSet_s | exact aNew_s | refine lk_n ?_ (by omega) | refine lk_f (by assumption) ?_ (by omega) | refine lk_w ?_ (by omega))) (by decide)) rfl (Nat.le_of_ble_eq_true rfl) (Nat.le_of_ble_eq_true rfl) (Nat.le_of_ble_eq_true rfl) (Nat.le_of_ble_eq_true rfl) (Nat.le_of_ble_eq_true rfl) ?_
      refine A_top (y := (V i).2.1) (by rw [atS_nI (by omega) (by decide), (hv i hlt).2.1]) ?_
      refine A_iload_n (pc := 18) rfl hX dX7_numberHeldBy_18 ?_
      refine A_icmp_ne (pc := 19) 24 hX dX7_numberHeldBy_19 rfl (fun c19 => ?_) (fun c19 => ?_)
      · refine A_iinc (pc := 24) (v := (nI (i + 1))) (lv' := [_, _, _]) hX dX7_numberHeldBy_24 rfl (nI_succ i).symm rfl rfl ?_
        refine A_goto (pc := 27) 2 hX dX7_numberHeldBy_27 rfl ?_
        exact ih (i + 1) (by omega) (by omega) (by rw [if_neg c19] at hf; exact hf)
      · refine A_iload_n (pc := 22) rfl hX dX7_numberHeldBy_22 ?_
        refine A_iret (pc := 23) hX hR dX7_numberHeldBy_23 rfl rfl ?_
        exact ⟨by rw [if_pos c19] at hf; rw [← hf], rfl⟩
set_option maxRecDepth 100000 in
set_option maxHeartbeats 1000000 in
theorem ct_daysLeftAt (l : Launch) (G : aG) {t nt : Nat} {dy : Int32} {V : Nat → Nat × Int32 × Int32 × Int32} {σ : aS} (hT : RTh G t nt dy V σ) {x : Int32} : ACt l G yX7_daysLeftAt cX7_daysLeftAt 3 (some .int) 2 0 0 [.ref t, .int x] σ (dP (some (.int (leftAt V nt x))) σ) := by
  obtain ⟨sd, fs, fh, fl, fr, ft, ⟨a0, a1, a2, a3, a4, a5⟩, hnt, hv⟩ := id hT
  refine ACt.intro (own := RX7) (nm := "daysLeftAt") mk_X7_daysLeftAt rfl rfl [some (.ref t), some (.int x), none] rfl (Nat.le_of_ble_eq_true rfl) (fun X hX hR => ?_)
  refine A_aload_n (pc := 0) rfl hX dX7_daysLeftAt_0 ?_
  refine A_iload_n (pc := 1) rfl hX dX7_daysLeftAt_1 ?_
  refine A_V1d (pc := 2) hX mk_X7_numberHeldBy lv_X7_52 dX7_daysLeftAt_2 (by repeat (first | assumption | exact aSet_s | exact aNew_s | refine lk_n ?_ (by omega) | refine lk_f (by assumption) ?_ (by omega) | refine lk_w ?_ (by omega))) (ct_numberHeldBy l G hT) rfl (Nat.le_of_ble_eq_true rfl) (Nat.le_of_ble_eq_true rfl) (Nat.le_of_ble_eq_true rfl) (Nat.le_of_ble_eq_true rfl) (Nat.le_of_ble_eq_true rfl) ?_
  refine A_istore_n (pc := 5) (lv' := [_, _, _]) hX dX7_daysLeftAt_5 (Nat.le_of_ble_eq_true rfl) rfl rfl ?_
  refine A_iload_n (pc := 6) rfl hX dX7_daysLeftAt_6 ?_
  refine A_iconst (pc := 7) (v := (-1)) (by decide) hX dX7_daysLeftAt_7 ?_
  refine A_icmp_ne (pc := 8) 15 hX dX7_daysLeftAt_8 rfl (fun c8 => ?_) (fun c8 => ?_)
  · refine A_aload_n (pc := 15) rfl hX dX7_daysLeftAt_15 ?_
    refine A_getf (pc := 16) hX fl_X7_18_7 dX7_daysLeftAt_16 (by repeat (first | assumption | exact aSet_s | exact aNew_s | refine lk_n ?_ (by omega) | refine lk_f (by assumption) ?_ (by omega) | refine lk_w ?_ (by omega))) (by exact rfl) ?_
    refine A_iload_n (pc := 19) rfl hX dX7_daysLeftAt_19 ?_
    refine A_S2d (pc := 20) hX mk_X11_at ls_X7_34 dX7_daysLeftAt_20 (ct_at l G (by repeat (first | assumption | exact aSet_s | exact aNew_s | refine lk_n ?_ (by omega) | refine lk_f (by assumption) ?_ (by omega) | refine lk_w ?_ (by omega))) (by decide)) rfl (Nat.le_of_ble_eq_true rfl) (Nat.le_of_ble_eq_true rfl) (Nat.le_of_ble_eq_true rfl) (Nat.le_of_ble_eq_true rfl) (Nat.le_of_ble_eq_true rfl) ?_
    refine A_iret (pc := 23) hX hR dX7_daysLeftAt_23 rfl rfl ?_
    first
      | (rw [leftAt, if_pos c8]; exact ⟨rfl, rfl⟩)
      | (obtain ⟨j, -, j2, j3, -⟩ := (hfind_or V x nt 0).resolve_left c8
         have j3 : heldBy V nt x = nI j := j3
         exact ⟨by rw [leftAt, if_neg c8, j3, nI_clamp (by omega), atS_nI (by omega) (by decide), (hv j (by omega)).2.2.1], rfl⟩)
  · refine A_iconst (pc := 11) (v := (nI 0)) (by decide) hX dX7_daysLeftAt_11 ?_
    refine A_goto (pc := 12) 23 hX dX7_daysLeftAt_12 rfl ?_
    refine A_iret (pc := 23) hX hR dX7_daysLeftAt_23 rfl rfl ?_
    first
      | (rw [leftAt, if_pos c8]; exact ⟨rfl, rfl⟩)
      | (obtain ⟨j, -, j2, j3, -⟩ := (hfind_or V x nt 0).resolve_left c8
         have j3 : heldBy V nt x = nI j := j3
         exact ⟨by rw [leftAt, if_neg c8, j3, nI_clamp (by omega), atS_nI (by omega) (by decide), (hv j (by omega)).2.2.1], rfl⟩)
set_option maxRecDepth 100000 in
set_option maxHeartbeats 1000000 in
theorem ct_takeBack (l : Launch) (G : aG) {w tp nb : Nat} {B : Nat → Nat × Nat × Nat × Nat} {t nt : Nat} {dy : Int32} {V : Nat → Nat × Int32 × Int32 × Int32} {σ : aS} (hT : RTh G t nt dy V σ) (hw : RTw G w tp nb B σ) (hV : okV nb nt V) {i : Nat} (hi : i < nt) (hd : w + 5 ≤ t) (htp : t + 6 ≤ tp) : ACt l G yX7_takeBack cX7_takeBack 3 (none) 3 0 0 [.ref t, .int (nI i), .ref w] σ (vP (fun σ' => RTh G t (nt) (dy) (fun j => if j = i then (homeV B (V i), -1, (V i).2.2.1, (V i).2.2.2 + 1) else V j) σ' ∧ Fr t (t + 6) σ σ')) := by
  obtain ⟨sd, fs, fh, fl, fr, ft, ⟨a0, a1, a2, a3, a4, a5⟩, hnt, hv⟩ := id hT
  obtain ⟨hwt, hnb, hok, bor, fa, fo, fn, e0, e1, e2, e3, e4, e5, e6⟩ := id hw
  refine ACt.intro (own := RX7) (nm := "takeBack") mk_X7_takeBack rfl rfl [some (.ref t), some (.int (nI i)), some (.ref w)] rfl (Nat.le_of_ble_eq_true rfl) (fun X hX hR => ?_)
  refine A_aload_n (pc := 0) rfl hX dX7_takeBack_0 ?_
  refine A_getf (pc := 1) hX fl_X7_9_7 dX7_takeBack_1 (by repeat (first | assumption | exact aSet_s | exact aNew_s | refine lk_n ?_ (by omega) | refine lk_f (by assumption) ?_ (by omega) | refine lk_w ?_ (by omega))) (by exact rfl) ?_
  refine A_iload_n (pc := 4) rfl hX dX7_takeBack_4 ?_
  refine A_aload_n (pc := 5) rfl hX dX7_takeBack_5 ?_
  refine A_iload_n (pc := 6) rfl hX dX7_takeBack_6 ?_
  refine A_aload_n (pc := 7) rfl hX dX7_takeBack_7 ?_
  refine A_V2d (pc := 8) hX mk_X7_stateAtHome lv_X7_67 dX7_takeBack_8 (by repeat (first | assumption | exact aSet_s | exact aNew_s | refine lk_n ?_ (by omega) | refine lk_f (by assumption) ?_ (by omega) | refine lk_w ?_ (by omega))) (ct_stateAtHome l G hT hw hV hi) rfl (Nat.le_of_ble_eq_true rfl) (Nat.le_of_ble_eq_true rfl) (Nat.le_of_ble_eq_true rfl) (Nat.le_of_ble_eq_true rfl) (Nat.le_of_ble_eq_true rfl) ?_
  refine A_S3v (pc := 11) hX mk_X11_put ls_X7_38 dX7_takeBack_11 (ct_put l G (by repeat (first | assumption | exact aSet_s | exact aNew_s | refine lk_n ?_ (by omega) | refine lk_f (by assumption) ?_ (by omega) | refine lk_w ?_ (by omega))) (by decide)) rfl (Nat.le_of_ble_eq_true rfl) (Nat.le_of_ble_eq_true rfl) (Nat.le_of_ble_eq_true rfl) (Nat.le_of_ble_eq_true rfl) (Nat.le_of_ble_eq_true rfl) (fun σ11 h11 => ?_)
  obtain ⟨h11, hf11⟩ := h11
  refine A_aload_n (pc := 14) rfl hX dX7_takeBack_14 ?_
  refine A_getf (pc := 15) hX fl_X7_15_7 dX7_takeBack_15 (by repeat (first | assumption | exact aSet_s | exact aNew_s | refine lk_n ?_ (by omega) | refine lk_f (by assumption) ?_ (by omega) | refine lk_w ?_ (by omega))) (by exact rfl) ?_
  refine A_iload_n (pc := 18) rfl hX dX7_takeBack_18 ?_
  refine A_iconst (pc := 19) (v := (-1)) (by decide) hX dX7_takeBack_19 ?_
  refine A_S3v (pc := 20) hX mk_X11_put ls_X7_38 dX7_takeBack_20 (ct_put l G (by repeat (first | assumption | exact aSet_s | exact aNew_s | refine lk_n ?_ (by omega) | refine lk_f (by assumption) ?_ (by omega) | refine lk_w ?_ (by omega))) (by decide)) rfl (Nat.le_of_ble_eq_true rfl) (Nat.le_of_ble_eq_true rfl) (Nat.le_of_ble_eq_true rfl) (Nat.le_of_ble_eq_true rfl) (Nat.le_of_ble_eq_true rfl) (fun σ20 h20 => ?_)
  obtain ⟨h20, hf20⟩ := h20
  refine A_aload_n (pc := 23) rfl hX dX7_takeBack_23 ?_
  refine A_getf (pc := 24) hX fl_X7_21_7 dX7_takeBack_24 (by repeat (first | assumption | exact aSet_s | exact aNew_s | refine lk_n ?_ (by omega) | refine lk_f (by assumption) ?_ (by omega) | refine lk_w ?_ (by omega))) (by exact rfl) ?_
  refine A_iload_n (pc := 27) rfl hX dX7_takeBack_27 ?_
  refine A_aload_n (pc := 28) rfl hX dX7_takeBack_28 ?_
  refine A_getf (pc := 29) hX fl_X7_21_7 dX7_takeBack_29 (by repeat (first | assumption | exact aSet_s | exact aNew_s | refine lk_n ?_ (by omega) | refine lk_f (by assumption) ?_ (by omega) | refine lk_w ?_ (by omega))) (by exact rfl) ?_
  refine A_iload_n (pc := 32) rfl hX dX7_takeBack_32 ?_
  refine A_S2d (pc := 33) hX mk_X11_at ls_X7_34 dX7_takeBack_33 (ct_at l G (by repeat (first | assumption | exact aSet_s | exact aNew_s | refine lk_n ?_ (by omega) | refine lk_f (by assumption) ?_ (by omega) | refine lk_w ?_ (by omega))) (by decide)) rfl (Nat.le_of_ble_eq_true rfl) (Nat.le_of_ble_eq_true rfl) (Nat.le_of_ble_eq_true rfl) (Nat.le_of_ble_eq_true rfl) (Nat.le_of_ble_eq_true rfl) ?_
  refine A_top (y := (V i).2.2.2) (by rw [atS_nI (by omega) (by decide), (hv i hi).2.2.2]) ?_
  refine A_iconst (pc := 36) (v := (nI 1)) (by decide) hX dX7_takeBack_36 ?_
  refine A_iadd (pc := 37) hX dX7_takeBack_37 ?_
  refine A_S3v (pc := 38) hX mk_X11_put ls_X7_38 dX7_takeBack_38 (ct_put l G (by repeat (first | assumption | exact aSet_s | exact aNew_s | refine lk_n ?_ (by omega) | refine lk_f (by assumption) ?_ (by omega) | refine lk_w ?_ (by omega))) (by decide)) rfl (Nat.le_of_ble_eq_true rfl) (Nat.le_of_ble_eq_true rfl) (Nat.le_of_ble_eq_true rfl) (Nat.le_of_ble_eq_true rfl) (Nat.le_of_ble_eq_true rfl) (fun σ38 h38 => ?_)
  obtain ⟨h38, hf38⟩ := h38
  refine A_ret (pc := 41) hX hR dX7_takeBack_41 ?_
  refine ⟨rfl, ⟨_, _, _, _, _, _, ⟨(by repeat (first | assumption | exact aSet_s | exact aNew_s | refine lk_n ?_ (by omega) | refine lk_f (by assumption) ?_ (by omega) | refine lk_w ?_ (by omega))), (by repeat (first | assumption | exact aSet_s | exact aNew_s | refine lk_n ?_ (by omega) | refine lk_f (by assumption) ?_ (by omega) | refine lk_w ?_ (by omega))), (by repeat (first | assumption | exact aSet_s | exact aNew_s | refine lk_n ?_ (by omega) | refine lk_f (by assumption) ?_ (by omega) | refine lk_w ?_ (by omega))), (by repeat (first | assumption | exact aSet_s | exact aNew_s | refine lk_n ?_ (by omega) | refine lk_f (by assumption) ?_ (by omega) | refine lk_w ?_ (by omega))), (by repeat (first | assumption | exact aSet_s | exact aNew_s | refine lk_n ?_ (by omega) | refine lk_f (by assumption) ?_ (by omega) | refine lk_w ?_ (by omega))), (by repeat (first | assumption | exact aSet_s | exact aNew_s | refine lk_n ?_ (by omega) | refine lk_f (by assumption) ?_ (by omega) | refine lk_w ?_ (by omega)))⟩, hnt, fun j hj => ?_⟩, (by repeat (first | exact Fr.rf | refine Fr.set ?_ (by omega) (by omega) | refine Fr.tr ?_ (Fr.wd (by assumption) (by omega) (by omega))))⟩
  rw [putS_nI (by omega) (by decide), putS_nI (by omega) (by decide), putS_nI (by omega) (by decide)]
  have h1 := hv j hj
  by_cases q : j = i
  · subst q; simp only [upd, if_pos]; exact ⟨trivial, trivial, h1.2.2.1, rfl⟩
  · simp only [upd, if_neg q]; exact h1
end
