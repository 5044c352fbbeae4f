-- ===== PART A: goes FIRST, ahead of the names: the tables' words, and 'selects' of the private methods out of them =====
/-- a private method of a class that the tables say can be made, by its rows of tables_1 -/
def lw_okq (q : MethodName × Nat) : Prop := (q.1.cls ≠ "java/lang/invoke/MethodHandle" ∧ q.1.cls ≠ "java/lang/invoke/VarHandle") ∧ Cond.instantiable q.1.cls q.2 ∈ tables_1 ∧ Cond.privateMethod q.1 ∈ tables_1 ∧ Cond.instanceMethod q.1 ∈ tables_1
theorem lw_p0 : lw_okq (⟨"LentChanged$Page", "fitsTown", "(I)Z"⟩, 2) := ⟨⟨by decide +kernel, by decide +kernel⟩, List.mem_of_getElem? (i := 25) (by decide +kernel), List.mem_of_getElem? (i := 237) (by decide +kernel), List.mem_of_getElem? (i := 238) (by decide +kernel)⟩
theorem lw_p1 : lw_okq (⟨"LentChanged$Things", "takeBack", "(ILLentChanged$Town;)V"⟩, 8) := ⟨⟨by decide +kernel, by decide +kernel⟩, List.mem_of_getElem? (i := 70) (by decide +kernel), List.mem_of_getElem? (i := 487) (by decide +kernel), List.mem_of_getElem? (i := 488) (by decide +kernel)⟩
theorem lw_p2 : lw_okq (⟨"LentChanged$Ways", "begin", "(I)V"⟩, 9) := ⟨⟨by decide +kernel, by decide +kernel⟩, List.mem_of_getElem? (i := 104) (by decide +kernel), List.mem_of_getElem? (i := 505) (by decide +kernel), List.mem_of_getElem? (i := 506) (by decide +kernel)⟩
theorem lw_p3 : lw_okq (⟨"LentChanged$Ways", "addAllOf", "(I)V"⟩, 9) := ⟨⟨by decide +kernel, by decide +kernel⟩, List.mem_of_getElem? (i := 104) (by decide +kernel), List.mem_of_getElem? (i := 513) (by decide +kernel), List.mem_of_getElem? (i := 514) (by decide +kernel)⟩
theorem lw_p4 : lw_okq (⟨"LentChanged$Ways", "addLoan", "(III)V"⟩, 9) := ⟨⟨by decide +kernel, by decide +kernel⟩, List.mem_of_getElem? (i := 104) (by decide +kernel), List.mem_of_getElem? (i := 523) (by decide +kernel), List.mem_of_getElem? (i := 524) (by decide +kernel)⟩
theorem lw_p5 : lw_okq (⟨"LentChanged$Spoiling", "isSafeWithout", "(IIII)Z"⟩, 4) := ⟨⟨by decide +kernel, by decide +kernel⟩, List.mem_of_getElem? (i := 139) (by decide +kernel), List.mem_of_getElem? (i := 555) (by decide +kernel), List.mem_of_getElem? (i := 556) (by decide +kernel)⟩
theorem lw_p6 : lw_okq (⟨"LentChanged$Town", "areAllBackAfterOneMore", "()Z"⟩, 5) := ⟨⟨by decide +kernel, by decide +kernel⟩, List.mem_of_getElem? (i := 41) (by decide +kernel), List.mem_of_getElem? (i := 581) (by decide +kernel), List.mem_of_getElem? (i := 582) (by decide +kernel)⟩
theorem lw_p7 : lw_okq (⟨"LentChanged$Rows", "lendToEach", "(I)V"⟩, 5) := ⟨⟨by decide +kernel, by decide +kernel⟩, List.mem_of_getElem? (i := 158) (by decide +kernel), List.mem_of_getElem? (i := 598) (by decide +kernel), List.mem_of_getElem? (i := 599) (by decide +kernel)⟩
theorem lw_p8 : lw_okq (⟨"LentChanged$Rows", "stepOn", "()V"⟩, 5) := ⟨⟨by decide +kernel, by decide +kernel⟩, List.mem_of_getElem? (i := 158) (by decide +kernel), List.mem_of_getElem? (i := 603) (by decide +kernel), List.mem_of_getElem? (i := 604) (by decide +kernel)⟩
theorem lw_p9 : lw_okq (⟨"LentChanged$Things", "drawOf", "(I)I"⟩, 8) := ⟨⟨by decide +kernel, by decide +kernel⟩, List.mem_of_getElem? (i := 70) (by decide +kernel), List.mem_of_getElem? (i := 623) (by decide +kernel), List.mem_of_getElem? (i := 624) (by decide +kernel)⟩
theorem lw_p10 : lw_okq (⟨"LentChanged$Things", "traitsOf", "([I)I"⟩, 8) := ⟨⟨by decide +kernel, by decide +kernel⟩, List.mem_of_getElem? (i := 70) (by decide +kernel), List.mem_of_getElem? (i := 639) (by decide +kernel), List.mem_of_getElem? (i := 640) (by decide +kernel)⟩
theorem lw_p11 : lw_okq (⟨"LentChanged", "mixedThing", "(JI)J"⟩, 11) := ⟨⟨by decide +kernel, by decide +kernel⟩, List.mem_of_getElem? (i := 17) (by decide +kernel), List.mem_of_getElem? (i := 677) (by decide +kernel), List.mem_of_getElem? (i := 678) (by decide +kernel)⟩
theorem lw_p12 : lw_okq (⟨"LentChangedModel", "readTown", "()V"⟩, 37) := ⟨⟨by decide +kernel, by decide +kernel⟩, List.mem_of_getElem? (i := 689) (by decide +kernel), List.mem_of_getElem? (i := 823) (by decide +kernel), List.mem_of_getElem? (i := 824) (by decide +kernel)⟩
theorem lw_p13 : lw_okq (⟨"LentChangedModel", "isGood", "(I)Z"⟩, 37) := ⟨⟨by decide +kernel, by decide +kernel⟩, List.mem_of_getElem? (i := 689) (by decide +kernel), List.mem_of_getElem? (i := 827) (by decide +kernel), List.mem_of_getElem? (i := 828) (by decide +kernel)⟩
theorem lw_p14 : lw_okq (⟨"LentChangedModel", "readRound", "()V"⟩, 37) := ⟨⟨by decide +kernel, by decide +kernel⟩, List.mem_of_getElem? (i := 689) (by decide +kernel), List.mem_of_getElem? (i := 834) (by decide +kernel), List.mem_of_getElem? (i := 835) (by decide +kernel)⟩
theorem lw_p15 : lw_okq (⟨"LentChangedModel", "isBorrower", "(I)Z"⟩, 37) := ⟨⟨by decide +kernel, by decide +kernel⟩, List.mem_of_getElem? (i := 689) (by decide +kernel), List.mem_of_getElem? (i := 846) (by decide +kernel), List.mem_of_getElem? (i := 847) (by decide +kernel)⟩
def lw_privs_1 : List (MethodName × Nat) := [(⟨"LentChanged$Page", "fitsTown", "(I)Z"⟩, 2), (⟨"LentChanged$Things", "takeBack", "(ILLentChanged$Town;)V"⟩, 8), (⟨"LentChanged$Ways", "begin", "(I)V"⟩, 9), (⟨"LentChanged$Ways", "addAllOf", "(I)V"⟩, 9), (⟨"LentChanged$Ways", "addLoan", "(III)V"⟩, 9), (⟨"LentChanged$Spoiling", "isSafeWithout", "(IIII)Z"⟩, 4), (⟨"LentChanged$Town", "areAllBackAfterOneMore", "()Z"⟩, 5), (⟨"LentChanged$Rows", "lendToEach", "(I)V"⟩, 5), (⟨"LentChanged$Rows", "stepOn", "()V"⟩, 5), (⟨"LentChanged$Things", "drawOf", "(I)I"⟩, 8), (⟨"LentChanged$Things", "traitsOf", "([I)I"⟩, 8), (⟨"LentChanged", "mixedThing", "(JI)J"⟩, 11), (⟨"LentChangedModel", "readTown", "()V"⟩, 37), (⟨"LentChangedModel", "isGood", "(I)Z"⟩, 37), (⟨"LentChangedModel", "readRound", "()V"⟩, 37), (⟨"LentChangedModel", "isBorrower", "(I)Z"⟩, 37)]
theorem lw_r1 : ∀ q ∈ lw_privs_1, lw_okq q := List.forall_mem_cons.mpr ⟨lw_p0, List.forall_mem_cons.mpr ⟨lw_p1, List.forall_mem_cons.mpr ⟨lw_p2, List.forall_mem_cons.mpr ⟨lw_p3, List.forall_mem_cons.mpr ⟨lw_p4, List.forall_mem_cons.mpr ⟨lw_p5, List.forall_mem_cons.mpr ⟨lw_p6, List.forall_mem_cons.mpr ⟨lw_p7, List.forall_mem_cons.mpr ⟨lw_p8, List.forall_mem_cons.mpr ⟨lw_p9, List.forall_mem_cons.mpr ⟨lw_p10, List.forall_mem_cons.mpr ⟨lw_p11, List.forall_mem_cons.mpr ⟨lw_p12, List.forall_mem_cons.mpr ⟨lw_p13, List.forall_mem_cons.mpr ⟨lw_p14, List.forall_mem_cons.mpr ⟨lw_p15, fun _ h => absurd h List.not_mem_nil⟩⟩⟩⟩⟩⟩⟩⟩⟩⟩⟩⟩⟩⟩⟩⟩
theorem lw_p16 : lw_okq (⟨"LentChangedModel", "borrowerNow", "(II)I"⟩, 37) := ⟨⟨by decide +kernel, by decide +kernel⟩, List.mem_of_getElem? (i := 689) (by decide +kernel), List.mem_of_getElem? (i := 850) (by decide +kernel), List.mem_of_getElem? (i := 851) (by decide +kernel)⟩
theorem lw_p17 : lw_okq (⟨"LentChangedModel", "whoseThing", "(I)I"⟩, 37) := ⟨⟨by decide +kernel, by decide +kernel⟩, List.mem_of_getElem? (i := 689) (by decide +kernel), List.mem_of_getElem? (i := 854) (by decide +kernel), List.mem_of_getElem? (i := 855) (by decide +kernel)⟩
theorem lw_p18 : lw_okq (⟨"LentChangedModel", "isThing", "(I)Z"⟩, 37) := ⟨⟨by decide +kernel, by decide +kernel⟩, List.mem_of_getElem? (i := 689) (by decide +kernel), List.mem_of_getElem? (i := 873) (by decide +kernel), List.mem_of_getElem? (i := 874) (by decide +kernel)⟩
theorem lw_p19 : lw_okq (⟨"LentChangedModel", "thingNow", "(II)I"⟩, 37) := ⟨⟨by decide +kernel, by decide +kernel⟩, List.mem_of_getElem? (i := 689) (by decide +kernel), List.mem_of_getElem? (i := 877) (by decide +kernel), List.mem_of_getElem? (i := 878) (by decide +kernel)⟩
theorem lw_p20 : lw_okq (⟨"LentChangedModel", "homeState", "(I)I"⟩, 37) := ⟨⟨by decide +kernel, by decide +kernel⟩, List.mem_of_getElem? (i := 689) (by decide +kernel), List.mem_of_getElem? (i := 881) (by decide +kernel), List.mem_of_getElem? (i := 882) (by decide +kernel)⟩
theorem lw_p21 : lw_okq (⟨"LentChangedModel", "made", "(II)I"⟩, 37) := ⟨⟨by decide +kernel, by decide +kernel⟩, List.mem_of_getElem? (i := 689) (by decide +kernel), List.mem_of_getElem? (i := 885) (by decide +kernel), List.mem_of_getElem? (i := 886) (by decide +kernel)⟩
theorem lw_p22 : lw_okq (⟨"LentChangedModel", "wishedNow", "(III)I"⟩, 37) := ⟨⟨by decide +kernel, by decide +kernel⟩, List.mem_of_getElem? (i := 689) (by decide +kernel), List.mem_of_getElem? (i := 911) (by decide +kernel), List.mem_of_getElem? (i := 912) (by decide +kernel)⟩
theorem lw_p23 : lw_okq (⟨"LentChangedModel", "layWaves", "(IZI)V"⟩, 37) := ⟨⟨by decide +kernel, by decide +kernel⟩, List.mem_of_getElem? (i := 689) (by decide +kernel), List.mem_of_getElem? (i := 915) (by decide +kernel), List.mem_of_getElem? (i := 916) (by decide +kernel)⟩
theorem lw_p24 : lw_okq (⟨"LentChangedModel", "goFrom", "(IZI)Z"⟩, 37) := ⟨⟨by decide +kernel, by decide +kernel⟩, List.mem_of_getElem? (i := 689) (by decide +kernel), List.mem_of_getElem? (i := 920) (by decide +kernel), List.mem_of_getElem? (i := 921) (by decide +kernel)⟩
theorem lw_p25 : lw_okq (⟨"LentChangedModel", "reachNow", "(I)I"⟩, 37) := ⟨⟨by decide +kernel, by decide +kernel⟩, List.mem_of_getElem? (i := 689) (by decide +kernel), List.mem_of_getElem? (i := 928) (by decide +kernel), List.mem_of_getElem? (i := 929) (by decide +kernel)⟩
theorem lw_p26 : lw_okq (⟨"LentChangedModel", "spoilersNow", "(III)I"⟩, 37) := ⟨⟨by decide +kernel, by decide +kernel⟩, List.mem_of_getElem? (i := 689) (by decide +kernel), List.mem_of_getElem? (i := 936) (by decide +kernel), List.mem_of_getElem? (i := 937) (by decide +kernel)⟩
theorem lw_p27 : lw_okq (⟨"LentChangedModel", "isSafe", "(IIII)Z"⟩, 37) := ⟨⟨by decide +kernel, by decide +kernel⟩, List.mem_of_getElem? (i := 689) (by decide +kernel), List.mem_of_getElem? (i := 943) (by decide +kernel), List.mem_of_getElem? (i := 944) (by decide +kernel)⟩
theorem lw_p28 : lw_okq (⟨"LentChangedModel", "backNow", "()I"⟩, 37) := ⟨⟨by decide +kernel, by decide +kernel⟩, List.mem_of_getElem? (i := 689) (by decide +kernel), List.mem_of_getElem? (i := 951) (by decide +kernel), List.mem_of_getElem? (i := 952) (by decide +kernel)⟩
theorem lw_p29 : lw_okq (⟨"LentChangedModel", "endsOf", "(I)I"⟩, 37) := ⟨⟨by decide +kernel, by decide +kernel⟩, List.mem_of_getElem? (i := 689) (by decide +kernel), List.mem_of_getElem? (i := 955) (by decide +kernel), List.mem_of_getElem? (i := 956) (by decide +kernel)⟩
theorem lw_p30 : lw_okq (⟨"LentChangedModel", "handsNow", "(IIII)I"⟩, 37) := ⟨⟨by decide +kernel, by decide +kernel⟩, List.mem_of_getElem? (i := 689) (by decide +kernel), List.mem_of_getElem? (i := 963) (by decide +kernel), List.mem_of_getElem? (i := 964) (by decide +kernel)⟩
theorem lw_p31 : lw_okq (⟨"LentChangedModel", "rowsWithout", "(IIII)I"⟩, 37) := ⟨⟨by decide +kernel, by decide +kernel⟩, List.mem_of_getElem? (i := 689) (by decide +kernel), List.mem_of_getElem? (i := 967) (by decide +kernel), List.mem_of_getElem? (i := 968) (by decide +kernel)⟩
def lw_privs_2 : List (MethodName × Nat) := [(⟨"LentChangedModel", "borrowerNow", "(II)I"⟩, 37), (⟨"LentChangedModel", "whoseThing", "(I)I"⟩, 37), (⟨"LentChangedModel", "isThing", "(I)Z"⟩, 37), (⟨"LentChangedModel", "thingNow", "(II)I"⟩, 37), (⟨"LentChangedModel", "homeState", "(I)I"⟩, 37), (⟨"LentChangedModel", "made", "(II)I"⟩, 37), (⟨"LentChangedModel", "wishedNow", "(III)I"⟩, 37), (⟨"LentChangedModel", "layWaves", "(IZI)V"⟩, 37), (⟨"LentChangedModel", "goFrom", "(IZI)Z"⟩, 37), (⟨"LentChangedModel", "reachNow", "(I)I"⟩, 37), (⟨"LentChangedModel", "spoilersNow", "(III)I"⟩, 37), (⟨"LentChangedModel", "isSafe", "(IIII)Z"⟩, 37), (⟨"LentChangedModel", "backNow", "()I"⟩, 37), (⟨"LentChangedModel", "endsOf", "(I)I"⟩, 37), (⟨"LentChangedModel", "handsNow", "(IIII)I"⟩, 37), (⟨"LentChangedModel", "rowsWithout", "(IIII)I"⟩, 37)]
theorem lw_r2 : ∀ q ∈ lw_privs_2, lw_okq q := List.forall_mem_cons.mpr ⟨lw_p16, List.forall_mem_cons.mpr ⟨lw_p17, List.forall_mem_cons.mpr ⟨lw_p18, List.forall_mem_cons.mpr ⟨lw_p19, List.forall_mem_cons.mpr ⟨lw_p20, List.forall_mem_cons.mpr ⟨lw_p21, List.forall_mem_cons.mpr ⟨lw_p22, List.forall_mem_cons.mpr ⟨lw_p23, List.forall_mem_cons.mpr ⟨lw_p24, List.forall_mem_cons.mpr ⟨lw_p25, List.forall_mem_cons.mpr ⟨lw_p26, List.forall_mem_cons.mpr ⟨lw_p27, List.forall_mem_cons.mpr ⟨lw_p28, List.forall_mem_cons.mpr ⟨lw_p29, List.forall_mem_cons.mpr ⟨lw_p30, List.forall_mem_cons.mpr ⟨lw_p31, fun _ h => absurd h List.not_mem_nil⟩⟩⟩⟩⟩⟩⟩⟩⟩⟩⟩⟩⟩⟩⟩⟩
theorem lw_p32 : lw_okq (⟨"LentChangedModel", "yearsNow", "(III)I"⟩, 37) := ⟨⟨by decide +kernel, by decide +kernel⟩, List.mem_of_getElem? (i := 689) (by decide +kernel), List.mem_of_getElem? (i := 975) (by decide +kernel), List.mem_of_getElem? (i := 976) (by decide +kernel)⟩
theorem lw_p33 : lw_okq (⟨"LentChangedModel", "draw", "(I)I"⟩, 37) := ⟨⟨by decide +kernel, by decide +kernel⟩, List.mem_of_getElem? (i := 689) (by decide +kernel), List.mem_of_getElem? (i := 979) (by decide +kernel), List.mem_of_getElem? (i := 980) (by decide +kernel)⟩
theorem lw_p34 : lw_okq (⟨"LentChangedModel", "howMany", "(I)I"⟩, 37) := ⟨⟨by decide +kernel, by decide +kernel⟩, List.mem_of_getElem? (i := 689) (by decide +kernel), List.mem_of_getElem? (i := 1002) (by decide +kernel), List.mem_of_getElem? (i := 1003) (by decide +kernel)⟩
theorem lw_p35 : lw_okq (⟨"LentChangedModel", "lentMany", "()I"⟩, 37) := ⟨⟨by decide +kernel, by decide +kernel⟩, List.mem_of_getElem? (i := 689) (by decide +kernel), List.mem_of_getElem? (i := 1006) (by decide +kernel), List.mem_of_getElem? (i := 1007) (by decide +kernel)⟩
theorem lw_p36 : lw_okq (⟨"LentChangedModel", "traitsAll", "()I"⟩, 37) := ⟨⟨by decide +kernel, by decide +kernel⟩, List.mem_of_getElem? (i := 689) (by decide +kernel), List.mem_of_getElem? (i := 1010) (by decide +kernel), List.mem_of_getElem? (i := 1011) (by decide +kernel)⟩
theorem lw_p37 : lw_okq (⟨"LentChangedModel", "mix", "(J)V"⟩, 37) := ⟨⟨by decide +kernel, by decide +kernel⟩, List.mem_of_getElem? (i := 689) (by decide +kernel), List.mem_of_getElem? (i := 1019) (by decide +kernel), List.mem_of_getElem? (i := 1020) (by decide +kernel)⟩
theorem lw_p38 : lw_okq (⟨"LentChangedModel", "mixThing", "(I)V"⟩, 37) := ⟨⟨by decide +kernel, by decide +kernel⟩, List.mem_of_getElem? (i := 689) (by decide +kernel), List.mem_of_getElem? (i := 1024) (by decide +kernel), List.mem_of_getElem? (i := 1025) (by decide +kernel)⟩
def lw_privs_3 : List (MethodName × Nat) := [(⟨"LentChangedModel", "yearsNow", "(III)I"⟩, 37), (⟨"LentChangedModel", "draw", "(I)I"⟩, 37), (⟨"LentChangedModel", "howMany", "(I)I"⟩, 37), (⟨"LentChangedModel", "lentMany", "()I"⟩, 37), (⟨"LentChangedModel", "traitsAll", "()I"⟩, 37), (⟨"LentChangedModel", "mix", "(J)V"⟩, 37), (⟨"LentChangedModel", "mixThing", "(I)V"⟩, 37)]
theorem lw_r3 : ∀ q ∈ lw_privs_3, lw_okq q := List.forall_mem_cons.mpr ⟨lw_p32, List.forall_mem_cons.mpr ⟨lw_p33, List.forall_mem_cons.mpr ⟨lw_p34, List.forall_mem_cons.mpr ⟨lw_p35, List.forall_mem_cons.mpr ⟨lw_p36, List.forall_mem_cons.mpr ⟨lw_p37, List.forall_mem_cons.mpr ⟨lw_p38, fun _ h => absurd h List.not_mem_nil⟩⟩⟩⟩⟩⟩⟩
def lw_privs : List (MethodName × Nat) := lw_privs_1 ++ (lw_privs_2 ++ (lw_privs_3))
def lw_tbl : List Cond := k2_sels lw_privs ++ tables_1
theorem lw_privs_ok : ∀ q ∈ lw_privs, lw_okq q := by
  show ∀ q ∈ lw_privs_1 ++ (lw_privs_2 ++ (lw_privs_3)), lw_okq q
  exact List.forall_mem_append.mpr ⟨lw_r1, List.forall_mem_append.mpr ⟨lw_r2, lw_r3⟩⟩
def R_law : String := "LentChangedLaw"
def RX0 : String := "LentChanged$Adder"
def TX0 : u_T := fun k => match k with
  | 0 => ("LentChanged$Adder", "trait", "I", true)
  | 1 => ("LentChanged$Adder", "much", "I", true)
  | _ => ("LentChanged$Adder", "days", "I", true)
def tyX0 : Nat → FieldType := fun k => match k with
  | 0 => .int
  | 1 => .int
  | _ => .int
abbrev wsX00 : List Cond := u_ws RX0 TX0 3
theorem nmX0 : ∀ a, a < 3 → ∀ b, b < 3 → a ≠ b → (TX0 a).2.1 ≠ (TX0 b).2.1 := by decide +kernel
theorem tyX0_ok : ∀ k, k < 3 → parseFieldDescriptor (TX0 k).2.2.1 = some (tyX0 k) := by decide +kernel
abbrev cX0_init : ByteArray := prog_2_method_1_code
def yX0_init : MethodName := ⟨RX0, "<init>", "(III)V"⟩
abbrev cX0_kind : ByteArray := prog_2_method_2_code
def yX0_kind : MethodName := ⟨RX0, "kind", "()I"⟩
abbrev cX0_changed : ByteArray := prog_2_method_3_code
def yX0_changed : MethodName := ⟨RX0, "changed", "(I)I"⟩
abbrev cX0_stateAfter : ByteArray := prog_2_method_4_code
def yX0_stateAfter : MethodName := ⟨RX0, "stateAfter", "(I)I"⟩
def RX1 : String := "LentChanged$Doubler"
def TX1 : u_T := fun k => match k with
  | 0 => ("LentChanged$Adder", "trait", "I", true)
  | 1 => ("LentChanged$Adder", "much", "I", true)
  | _ => ("LentChanged$Adder", "days", "I", true)
def tyX1 : Nat → FieldType := fun k => match k with
  | 0 => .int
  | 1 => .int
  | _ => .int
abbrev wsX10 : List Cond := u_ws RX1 TX1 3
theorem nmX1 : ∀ a, a < 3 → ∀ b, b < 3 → a ≠ b → (TX1 a).2.1 ≠ (TX1 b).2.1 := by decide +kernel
theorem tyX1_ok : ∀ k, k < 3 → parseFieldDescriptor (TX1 k).2.2.1 = some (tyX1 k) := by decide +kernel
abbrev cX1_init : ByteArray := prog_3_method_1_code
def yX1_init : MethodName := ⟨RX1, "<init>", "(III)V"⟩
abbrev cX1_kind : ByteArray := prog_3_method_2_code
def yX1_kind : MethodName := ⟨RX1, "kind", "()I"⟩
abbrev cX1_changed : ByteArray := prog_3_method_3_code
def yX1_changed : MethodName := ⟨RX1, "changed", "(I)I"⟩
def RX2 : String := "LentChanged$Page"
def TX2 : u_T := fun k => match k with
  | 0 => ("LentChanged$Page", "codes", "[I", true)
  | _ => ("LentChanged$Page", "length", "I", false)
def tyX2 : Nat → FieldType := fun k => match k with
  | 0 => .array .int
  | _ => .int
abbrev wsX20 : List Cond := u_ws RX2 TX2 2
theorem nmX2 : ∀ a, a < 2 → ∀ b, b < 2 → a ≠ b → (TX2 a).2.1 ≠ (TX2 b).2.1 := by decide +kernel
theorem tyX2_ok : ∀ k, k < 2 → parseFieldDescriptor (TX2 k).2.2.1 = some (tyX2 k) := by decide +kernel
abbrev cX2_init : ByteArray := prog_4_method_1_code
def yX2_init : MethodName := ⟨RX2, "<init>", "()V"⟩
abbrev cX2_add : ByteArray := prog_4_method_2_code
def yX2_add : MethodName := ⟨RX2, "add", "(I)V"⟩
abbrev cX2_codeAt : ByteArray := prog_4_method_3_code
def yX2_codeAt : MethodName := ⟨RX2, "codeAt", "(I)I"⟩
abbrev cX2_digitAt : ByteArray := prog_4_method_4_code
def yX2_digitAt : MethodName := ⟨RX2, "digitAt", "(I)I"⟩
abbrev cX2_faultOfTown : ByteArray := prog_4_method_5_code
def yX2_faultOfTown : MethodName := ⟨RX2, "faultOfTown", "()I"⟩
abbrev cX2_faultOfRound : ByteArray := prog_4_method_6_code
def yX2_faultOfRound : MethodName := ⟨RX2, "faultOfRound", "(I)I"⟩
abbrev cX2_isTown : ByteArray := prog_4_method_7_code
def yX2_isTown : MethodName := ⟨RX2, "isTown", "()Z"⟩
abbrev cX2_isRound : ByteArray := prog_4_method_8_code
def yX2_isRound : MethodName := ⟨RX2, "isRound", "(I)Z"⟩
abbrev cX2_borrowers : ByteArray := prog_4_method_9_code
def yX2_borrowers : MethodName := ⟨RX2, "borrowers", "()I"⟩
abbrev cX2_borrowerFrom : ByteArray := prog_4_method_10_code
def yX2_borrowerFrom : MethodName := ⟨RX2, "borrowerFrom", "(I)LLentChanged$Adder;"⟩
abbrev cX2_fitsTown : ByteArray := prog_4_method_11_code
def yX2_fitsTown : MethodName := ⟨RX2, "fitsTown", "(I)Z"⟩
def RX3 : String := "LentChanged$Rows"
def TX3 : u_T := fun k => match k with
  | 0 => ("LentChanged$Rows", "people", "LLentChanged$Town;", true)
  | 1 => ("LentChanged$Rows", "many", "[I", false)
  | 2 => ("LentChanged$Rows", "inEach", "[I", false)
  | 3 => ("LentChanged$Rows", "manyNext", "[I", false)
  | _ => ("LentChanged$Rows", "inEachNext", "[I", false)
def tyX3 : Nat → FieldType := fun k => match k with
  | 0 => .object "LentChanged$Town"
  | 1 => .array .int
  | 2 => .array .int
  | 3 => .array .int
  | _ => .array .int
abbrev wsX30 : List Cond := u_ws RX3 TX3 5
theorem nmX3 : ∀ a, a < 5 → ∀ b, b < 5 → a ≠ b → (TX3 a).2.1 ≠ (TX3 b).2.1 := by decide +kernel
theorem tyX3_ok : ∀ k, k < 5 → parseFieldDescriptor (TX3 k).2.2.1 = some (tyX3 k) := by decide +kernel
abbrev cX3_init : ByteArray := prog_5_method_1_code
def yX3_init : MethodName := ⟨RX3, "<init>", "(LLentChanged$Town;)V"⟩
abbrev cX3_howManyTo : ByteArray := prog_5_method_2_code
def yX3_howManyTo : MethodName := ⟨RX3, "howManyTo", "(I)I"⟩
abbrev cX3_inEachTo : ByteArray := prog_5_method_3_code
def yX3_inEachTo : MethodName := ⟨RX3, "inEachTo", "(I)I"⟩
abbrev cX3_follow : ByteArray := prog_5_method_4_code
def yX3_follow : MethodName := ⟨RX3, "follow", "(II)V"⟩
abbrev cX3_lendToEach : ByteArray := prog_5_method_5_code
def yX3_lendToEach : MethodName := ⟨RX3, "lendToEach", "(I)V"⟩
abbrev cX3_stepOn : ByteArray := prog_5_method_6_code
def yX3_stepOn : MethodName := ⟨RX3, "stepOn", "()V"⟩
def RX4 : String := "LentChanged$Setter"
def TX4 : u_T := fun k => match k with
  | 0 => ("LentChanged$Adder", "trait", "I", true)
  | 1 => ("LentChanged$Adder", "much", "I", true)
  | _ => ("LentChanged$Adder", "days", "I", true)
def tyX4 : Nat → FieldType := fun k => match k with
  | 0 => .int
  | 1 => .int
  | _ => .int
abbrev wsX40 : List Cond := u_ws RX4 TX4 3
theorem nmX4 : ∀ a, a < 3 → ∀ b, b < 3 → a ≠ b → (TX4 a).2.1 ≠ (TX4 b).2.1 := by decide +kernel
theorem tyX4_ok : ∀ k, k < 3 → parseFieldDescriptor (TX4 k).2.2.1 = some (tyX4 k) := by decide +kernel
abbrev cX4_init : ByteArray := prog_6_method_1_code
def yX4_init : MethodName := ⟨RX4, "<init>", "(III)V"⟩
abbrev cX4_kind : ByteArray := prog_6_method_2_code
def yX4_kind : MethodName := ⟨RX4, "kind", "()I"⟩
abbrev cX4_changed : ByteArray := prog_6_method_3_code
def yX4_changed : MethodName := ⟨RX4, "changed", "(I)I"⟩
def RX5 : String := "LentChanged$Spoiling"
def TX5 : u_T := fun k => match k with
  | 0 => ("LentChanged$Spoiling", "people", "LLentChanged$Town;", true)
  | 1 => ("LentChanged$Spoiling", "queue", "[I", true)
  | 2 => ("LentChanged$Spoiling", "seen", "[I", true)
  | _ => ("LentChanged$Spoiling", "search", "I", false)
def tyX5 : Nat → FieldType := fun k => match k with
  | 0 => .object "LentChanged$Town"
  | 1 => .array .int
  | 2 => .array .int
  | _ => .int
abbrev wsX50 : List Cond := u_ws RX5 TX5 4
theorem nmX5 : ∀ a, a < 4 → ∀ b, b < 4 → a ≠ b → (TX5 a).2.1 ≠ (TX5 b).2.1 := by decide +kernel
theorem tyX5_ok : ∀ k, k < 4 → parseFieldDescriptor (TX5 k).2.2.1 = some (tyX5 k) := by decide +kernel
abbrev cX5_init : ByteArray := prog_7_method_1_code
def yX5_init : MethodName := ⟨RX5, "<init>", "(LLentChanged$Town;)V"⟩
abbrev cX5_fewest : ByteArray := prog_7_method_2_code
def yX5_fewest : MethodName := ⟨RX5, "fewest", "(III)I"⟩
abbrev cX5_isSafeWithout : ByteArray := prog_7_method_3_code
def yX5_isSafeWithout : MethodName := ⟨RX5, "isSafeWithout", "(IIII)Z"⟩
def RX6 : String := "LentChanged$Swapper"
def TX6 : u_T := fun k => match k with
  | 0 => ("LentChanged$Adder", "trait", "I", true)
  | 1 => ("LentChanged$Adder", "much", "I", true)
  | _ => ("LentChanged$Adder", "days", "I", true)
def tyX6 : Nat → FieldType := fun k => match k with
  | 0 => .int
  | 1 => .int
  | _ => .int
abbrev wsX60 : List Cond := u_ws RX6 TX6 3
theorem nmX6 : ∀ a, a < 3 → ∀ b, b < 3 → a ≠ b → (TX6 a).2.1 ≠ (TX6 b).2.1 := by decide +kernel
theorem tyX6_ok : ∀ k, k < 3 → parseFieldDescriptor (TX6 k).2.2.1 = some (tyX6 k) := by decide +kernel
abbrev cX6_init : ByteArray := prog_8_method_1_code
def yX6_init : MethodName := ⟨RX6, "<init>", "(III)V"⟩
abbrev cX6_kind : ByteArray := prog_8_method_2_code
def yX6_kind : MethodName := ⟨RX6, "kind", "()I"⟩
abbrev cX6_stateAfter : ByteArray := prog_8_method_3_code
def yX6_stateAfter : MethodName := ⟨RX6, "stateAfter", "(I)I"⟩
def RX7 : String := "LentChanged$Things"
def TX7 : u_T := fun k => match k with
  | 0 => ("LentChanged$Things", "states", "[I", true)
  | 1 => ("LentChanged$Things", "holders", "[I", true)
  | 2 => ("LentChanged$Things", "daysLeft", "[I", true)
  | 3 => ("LentChanged$Things", "returns", "[I", true)
  | 4 => ("LentChanged$Things", "size", "I", false)
  | 5 => ("LentChanged$Things", "days", "I", false)
  | 6 => ("LentChanged$Things", "statesThen", "[I", true)
  | _ => ("LentChanged$Things", "seedThen", "I", false)
def tyX7 : Nat → FieldType := fun k => match k with
  | 0 => .array .int
  | 1 => .array .int
  | 2 => .array .int
  | 3 => .array .int
  | 4 => .int
  | 5 => .int
  | 6 => .array .int
  | _ => .int
abbrev wsX70 : List Cond := u_ws RX7 TX7 8
theorem nmX7 : ∀ a, a < 8 → ∀ b, b < 8 → a ≠ b → (TX7 a).2.1 ≠ (TX7 b).2.1 := by decide +kernel
theorem tyX7_ok : ∀ k, k < 8 → parseFieldDescriptor (TX7 k).2.2.1 = some (tyX7 k) := by decide +kernel
abbrev cX7_init : ByteArray := prog_9_method_1_code
def yX7_init : MethodName := ⟨RX7, "<init>", "()V"⟩
abbrev cX7_empty : ByteArray := prog_9_method_2_code
def yX7_empty : MethodName := ⟨RX7, "empty", "()V"⟩
abbrev cX7_copyFrom : ByteArray := prog_9_method_3_code
def yX7_copyFrom : MethodName := ⟨RX7, "copyFrom", "(LLentChanged$Things;)V"⟩
abbrev cX7_has : ByteArray := prog_9_method_4_code
def yX7_has : MethodName := ⟨RX7, "has", "(I)Z"⟩
abbrev cX7_stateOf : ByteArray := prog_9_method_5_code
def yX7_stateOf : MethodName := ⟨RX7, "stateOf", "(I)I"⟩
abbrev cX7_holderOf : ByteArray := prog_9_method_6_code
def yX7_holderOf : MethodName := ⟨RX7, "holderOf", "(I)I"⟩
abbrev cX7_returnsOf : ByteArray := prog_9_method_7_code
def yX7_returnsOf : MethodName := ⟨RX7, "returnsOf", "(I)I"⟩
abbrev cX7_isLent : ByteArray := prog_9_method_8_code
def yX7_isLent : MethodName := ⟨RX7, "isLent", "(I)Z"⟩
abbrev cX7_stateAtHome : ByteArray := prog_9_method_9_code
def yX7_stateAtHome : MethodName := ⟨RX7, "stateAtHome", "(ILLentChanged$Town;)I"⟩
abbrev cX7_add : ByteArray := prog_9_method_10_code
def yX7_add : MethodName := ⟨RX7, "add", "(I)I"⟩
abbrev cX7_give : ByteArray := prog_9_method_11_code
def yX7_give : MethodName := ⟨RX7, "give", "(III)V"⟩
abbrev cX7_numberHeldBy : ByteArray := prog_9_method_12_code
def yX7_numberHeldBy : MethodName := ⟨RX7, "numberHeldBy", "(I)I"⟩
abbrev cX7_daysLeftAt : ByteArray := prog_9_method_13_code
def yX7_daysLeftAt : MethodName := ⟨RX7, "daysLeftAt", "(I)I"⟩
abbrev cX7_passDay : ByteArray := prog_9_method_14_code
def yX7_passDay : MethodName := ⟨RX7, "passDay", "(LLentChanged$Town;)I"⟩
abbrev cX7_howManyLent : ByteArray := prog_9_method_15_code
def yX7_howManyLent : MethodName := ⟨RX7, "howManyLent", "()I"⟩
abbrev cX7_traitsTogether : ByteArray := prog_9_method_16_code
def yX7_traitsTogether : MethodName := ⟨RX7, "traitsTogether", "()I"⟩
abbrev cX7_dreamYears : ByteArray := prog_9_method_17_code
def yX7_dreamYears : MethodName := ⟨RX7, "dreamYears", "(LLentChanged$Town;II)V"⟩
abbrev cX7_stateOfFirstThen : ByteArray := prog_9_method_18_code
def yX7_stateOfFirstThen : MethodName := ⟨RX7, "stateOfFirstThen", "()I"⟩
abbrev cX7_traitsTogetherThen : ByteArray := prog_9_method_19_code
def yX7_traitsTogetherThen : MethodName := ⟨RX7, "traitsTogetherThen", "()I"⟩
abbrev cX7_takeBack : ByteArray := prog_9_method_20_code
def yX7_takeBack : MethodName := ⟨RX7, "takeBack", "(ILLentChanged$Town;)V"⟩
abbrev cX7_traitsOf : ByteArray := prog_9_method_21_code
def yX7_traitsOf : MethodName := ⟨RX7, "traitsOf", "([I)I"⟩
abbrev cX7_drawOf : ByteArray := prog_9_method_22_code
def yX7_drawOf : MethodName := ⟨RX7, "drawOf", "(I)I"⟩
def RX8 : String := "LentChanged$Town"
def TX8 : u_T := fun k => match k with
  | 0 => ("LentChanged$Town", "borrowers", "[LLentChanged$Adder;", true)
  | 1 => ("LentChanged$Town", "afters", "[I", true)
  | 2 => ("LentChanged$Town", "once", "[I", true)
  | 3 => ("LentChanged$Town", "now", "[I", true)
  | _ => ("LentChanged$Town", "size", "I", false)
def tyX8 : Nat → FieldType := fun k => match k with
  | 0 => .array (.object "LentChanged$Adder")
  | 1 => .array .int
  | 2 => .array .int
  | 3 => .array .int
  | _ => .int
abbrev wsX80 : List Cond := u_ws RX8 TX8 5
theorem nmX8 : ∀ a, a < 5 → ∀ b, b < 5 → a ≠ b → (TX8 a).2.1 ≠ (TX8 b).2.1 := by decide +kernel
theorem tyX8_ok : ∀ k, k < 5 → parseFieldDescriptor (TX8 k).2.2.1 = some (tyX8 k) := by decide +kernel
abbrev cX8_init : ByteArray := prog_10_method_1_code
def yX8_init : MethodName := ⟨RX8, "<init>", "()V"⟩
abbrev cX8_read : ByteArray := prog_10_method_2_code
def yX8_read : MethodName := ⟨RX8, "read", "(LLentChanged$Page;)V"⟩
abbrev cX8_borrowerAt : ByteArray := prog_10_method_3_code
def yX8_borrowerAt : MethodName := ⟨RX8, "borrowerAt", "(I)LLentChanged$Adder;"⟩
abbrev cX8_daysOf : ByteArray := prog_10_method_4_code
def yX8_daysOf : MethodName := ⟨RX8, "daysOf", "(I)I"⟩
abbrev cX8_after : ByteArray := prog_10_method_5_code
def yX8_after : MethodName := ⟨RX8, "after", "(II)I"⟩
abbrev cX8_endOf : ByteArray := prog_10_method_6_code
def yX8_endOf : MethodName := ⟨RX8, "endOf", "(LLentChanged$Page;I)I"⟩
abbrev cX8_timesUntilBack : ByteArray := prog_10_method_7_code
def yX8_timesUntilBack : MethodName := ⟨RX8, "timesUntilBack", "(LLentChanged$Page;)I"⟩
abbrev cX8_areAllBackAfterOneMore : ByteArray := prog_10_method_8_code
def yX8_areAllBackAfterOneMore : MethodName := ⟨RX8, "areAllBackAfterOneMore", "()Z"⟩
def RX9 : String := "LentChanged$Turner"
def TX9 : u_T := fun k => match k with
  | 0 => ("LentChanged$Adder", "trait", "I", true)
  | 1 => ("LentChanged$Adder", "much", "I", true)
  | _ => ("LentChanged$Adder", "days", "I", true)
def tyX9 : Nat → FieldType := fun k => match k with
  | 0 => .int
  | 1 => .int
  | _ => .int
abbrev wsX90 : List Cond := u_ws RX9 TX9 3
theorem nmX9 : ∀ a, a < 3 → ∀ b, b < 3 → a ≠ b → (TX9 a).2.1 ≠ (TX9 b).2.1 := by decide +kernel
theorem tyX9_ok : ∀ k, k < 3 → parseFieldDescriptor (TX9 k).2.2.1 = some (tyX9 k) := by decide +kernel
abbrev cX9_init : ByteArray := prog_11_method_1_code
def yX9_init : MethodName := ⟨RX9, "<init>", "(III)V"⟩
abbrev cX9_kind : ByteArray := prog_11_method_2_code
def yX9_kind : MethodName := ⟨RX9, "kind", "()I"⟩
abbrev cX9_changed : ByteArray := prog_11_method_3_code
def yX9_changed : MethodName := ⟨RX9, "changed", "(I)I"⟩
def RX10 : String := "LentChanged$Ways"
def TX10 : u_T := fun k => match k with
  | 0 => ("LentChanged$Ways", "people", "LLentChanged$Town;", true)
  | 1 => ("LentChanged$Ways", "isByDays", "Z", true)
  | 2 => ("LentChanged$Ways", "costs", "[I", true)
  | 3 => ("LentChanged$Ways", "firsts", "[I", true)
  | 4 => ("LentChanged$Ways", "order", "[I", true)
  | 5 => ("LentChanged$Ways", "begins", "[I", true)
  | 6 => ("LentChanged$Ways", "ends", "[I", true)
  | 7 => ("LentChanged$Ways", "start", "I", false)
  | _ => ("LentChanged$Ways", "found", "I", false)
def tyX10 : Nat → FieldType := fun k => match k with
  | 0 => .object "LentChanged$Town"
  | 1 => .boolean
  | 2 => .array .int
  | 3 => .array .int
  | 4 => .array .int
  | 5 => .array .int
  | 6 => .array .int
  | 7 => .int
  | _ => .int
abbrev wsX100 : List Cond := u_ws RX10 TX10 9
theorem nmX10 : ∀ a, a < 9 → ∀ b, b < 9 → a ≠ b → (TX10 a).2.1 ≠ (TX10 b).2.1 := by decide +kernel
theorem tyX10_ok : ∀ k, k < 9 → parseFieldDescriptor (TX10 k).2.2.1 = some (tyX10 k) := by decide +kernel
abbrev cX10_init : ByteArray := prog_12_method_1_code
def yX10_init : MethodName := ⟨RX10, "<init>", "(LLentChanged$Town;Z)V"⟩
abbrev cX10_forget : ByteArray := prog_12_method_2_code
def yX10_forget : MethodName := ⟨RX10, "forget", "()V"⟩
abbrev cX10_costOf : ByteArray := prog_12_method_3_code
def yX10_costOf : MethodName := ⟨RX10, "costOf", "(I)I"⟩
abbrev cX10_firstTo : ByteArray := prog_12_method_4_code
def yX10_firstTo : MethodName := ⟨RX10, "firstTo", "(I)I"⟩
abbrev cX10_searchFrom : ByteArray := prog_12_method_5_code
def yX10_searchFrom : MethodName := ⟨RX10, "searchFrom", "(I)V"⟩
abbrev cX10_begin : ByteArray := prog_12_method_6_code
def yX10_begin : MethodName := ⟨RX10, "begin", "(I)V"⟩
abbrev cX10_addAllOf : ByteArray := prog_12_method_7_code
def yX10_addAllOf : MethodName := ⟨RX10, "addAllOf", "(I)V"⟩
abbrev cX10_addLoan : ByteArray := prog_12_method_8_code
def yX10_addLoan : MethodName := ⟨RX10, "addLoan", "(III)V"⟩
def RX11 : String := "LentChanged"
def TX11 : u_T := fun k => match k with
  | 0 => ("LentChanged", "page", "LLentChanged$Page;", true)
  | 1 => ("LentChanged", "people", "LLentChanged$Town;", true)
  | 2 => ("LentChanged", "things", "LLentChanged$Things;", true)
  | 3 => ("LentChanged", "kept", "LLentChanged$Things;", true)
  | 4 => ("LentChanged", "fewestLoans", "LLentChanged$Ways;", true)
  | 5 => ("LentChanged", "fewestDays", "LLentChanged$Ways;", true)
  | 6 => ("LentChanged", "spoiling", "LLentChanged$Spoiling;", true)
  | 7 => ("LentChanged", "rows", "LLentChanged$Rows;", true)
  | 8 => ("LentChanged", "hasImage", "Z", false)
  | 9 => ("LentChanged", "townsRead", "I", false)
  | _ => ("LentChanged", "handsDone", "I", false)
def tyX11 : Nat → FieldType := fun k => match k with
  | 0 => .object "LentChanged$Page"
  | 1 => .object "LentChanged$Town"
  | 2 => .object "LentChanged$Things"
  | 3 => .object "LentChanged$Things"
  | 4 => .object "LentChanged$Ways"
  | 5 => .object "LentChanged$Ways"
  | 6 => .object "LentChanged$Spoiling"
  | 7 => .object "LentChanged$Rows"
  | 8 => .boolean
  | 9 => .int
  | _ => .int
abbrev wsX110 : List Cond := u_ws RX11 TX11 11
theorem nmX11 : ∀ a, a < 11 → ∀ b, b < 11 → a ≠ b → (TX11 a).2.1 ≠ (TX11 b).2.1 := by decide +kernel
theorem tyX11_ok : ∀ k, k < 11 → parseFieldDescriptor (TX11 k).2.2.1 = some (tyX11 k) := by decide +kernel
abbrev cX11_init : ByteArray := prog_1_method_1_code
def yX11_init : MethodName := ⟨RX11, "<init>", "()V"⟩
abbrev cX11_letter : ByteArray := prog_1_method_2_code
def yX11_letter : MethodName := ⟨RX11, "letter", "(I)I"⟩
abbrev cX11_blank : ByteArray := prog_1_method_3_code
def yX11_blank : MethodName := ⟨RX11, "blank", "()I"⟩
abbrev cX11_fault : ByteArray := prog_1_method_4_code
def yX11_fault : MethodName := ⟨RX11, "fault", "(I)I"⟩
abbrev cX11_town : ByteArray := prog_1_method_5_code
def yX11_town : MethodName := ⟨RX11, "town", "()I"⟩
abbrev cX11_about : ByteArray := prog_1_method_6_code
def yX11_about : MethodName := ⟨RX11, "about", "(II)I"⟩
abbrev cX11_as : ByteArray := prog_1_method_7_code
def yX11_as : MethodName := ⟨RX11, "as", "(II)I"⟩
abbrev cX11_thing : ByteArray := prog_1_method_8_code
def yX11_thing : MethodName := ⟨RX11, "thing", "(I)I"⟩
abbrev cX11_thingOf : ByteArray := prog_1_method_9_code
def yX11_thingOf : MethodName := ⟨RX11, "thingOf", "(II)I"⟩
abbrev cX11_lend : ByteArray := prog_1_method_10_code
def yX11_lend : MethodName := ⟨RX11, "lend", "(II)I"⟩
abbrev cX11_day : ByteArray := prog_1_method_11_code
def yX11_day : MethodName := ⟨RX11, "day", "()I"⟩
abbrev cX11_by : ByteArray := prog_1_method_12_code
def yX11_by : MethodName := ⟨RX11, "by", "(II)I"⟩
abbrev cX11_wished : ByteArray := prog_1_method_13_code
def yX11_wished : MethodName := ⟨RX11, "wished", "(III)I"⟩
abbrev cX11_reach : ByteArray := prog_1_method_14_code
def yX11_reach : MethodName := ⟨RX11, "reach", "(I)I"⟩
abbrev cX11_spoilers : ByteArray := prog_1_method_15_code
def yX11_spoilers : MethodName := ⟨RX11, "spoilers", "(III)I"⟩
abbrev cX11_round : ByteArray := prog_1_method_16_code
def yX11_round : MethodName := ⟨RX11, "round", "(II)I"⟩
abbrev cX11_hands : ByteArray := prog_1_method_17_code
def yX11_hands : MethodName := ⟨RX11, "hands", "(IIII)I"⟩
abbrev cX11_years : ByteArray := prog_1_method_18_code
def yX11_years : MethodName := ⟨RX11, "years", "(III)I"⟩
abbrev cX11_image : ByteArray := prog_1_method_19_code
def yX11_image : MethodName := ⟨RX11, "image", "()I"⟩
abbrev cX11_restore : ByteArray := prog_1_method_20_code
def yX11_restore : MethodName := ⟨RX11, "restore", "()I"⟩
abbrev cX11_count : ByteArray := prog_1_method_21_code
def yX11_count : MethodName := ⟨RX11, "count", "(I)I"⟩
abbrev cX11_digest : ByteArray := prog_1_method_22_code
def yX11_digest : MethodName := ⟨RX11, "digest", "()J"⟩
abbrev cX11_mixedThing : ByteArray := prog_1_method_23_code
def yX11_mixedThing : MethodName := ⟨RX11, "mixedThing", "(JI)J"⟩
abbrev cX11_isOfKind : ByteArray := prog_1_method_24_code
def yX11_isOfKind : MethodName := ⟨RX11, "isOfKind", "(LLentChanged$Adder;I)Z"⟩
abbrev cX11_isState : ByteArray := prog_1_method_25_code
def yX11_isState : MethodName := ⟨RX11, "isState", "(I)Z"⟩
abbrev cX11_traitOf : ByteArray := prog_1_method_26_code
def yX11_traitOf : MethodName := ⟨RX11, "traitOf", "(II)I"⟩
abbrev cX11_traitSum : ByteArray := prog_1_method_27_code
def yX11_traitSum : MethodName := ⟨RX11, "traitSum", "(I)I"⟩
abbrev cX11_at : ByteArray := prog_1_method_28_code
def yX11_at : MethodName := ⟨RX11, "at", "([II)I"⟩
abbrev cX11_put : ByteArray := prog_1_method_29_code
def yX11_put : MethodName := ⟨RX11, "put", "([III)V"⟩
abbrev cX11_fill : ByteArray := prog_1_method_30_code
def yX11_fill : MethodName := ⟨RX11, "fill", "([II)V"⟩
def RX12 : String := "LentChangedModel"
def TX12 : u_T := fun k => match k with
  | 0 => ("LentChangedModel", "towns", "I", false)
  | 1 => ("LentChangedModel", "borrowers", "I", false)
  | 2 => ("LentChangedModel", "kindOf", "[I", true)
  | 3 => ("LentChangedModel", "traitOf", "[I", true)
  | 4 => ("LentChangedModel", "muchOf", "[I", true)
  | 5 => ("LentChangedModel", "daysOf", "[I", true)
  | 6 => ("LentChangedModel", "things", "I", false)
  | 7 => ("LentChangedModel", "stateOf", "[I", true)
  | 8 => ("LentChangedModel", "whoOf", "[I", true)
  | 9 => ("LentChangedModel", "stillOf", "[I", true)
  | 10 => ("LentChangedModel", "oftenOf", "[I", true)
  | 11 => ("LentChangedModel", "daysBy", "I", false)
  | 12 => ("LentChangedModel", "asks", "I", false)
  | 13 => ("LentChangedModel", "pageLength", "I", false)
  | 14 => ("LentChangedModel", "page", "[B", true)
  | 15 => ("LentChangedModel", "faultAt", "I", false)
  | 16 => ("LentChangedModel", "isWhole", "Z", false)
  | 17 => ("LentChangedModel", "newMany", "I", false)
  | 18 => ("LentChangedModel", "newKind", "[I", true)
  | 19 => ("LentChangedModel", "newTrait", "[I", true)
  | 20 => ("LentChangedModel", "newMuch", "[I", true)
  | 21 => ("LentChangedModel", "newDays", "[I", true)
  | 22 => ("LentChangedModel", "farOf", "[I", true)
  | 23 => ("LentChangedModel", "firstOf", "[I", true)
  | 24 => ("LentChangedModel", "rowsOf", "[I", true)
  | 25 => ("LentChangedModel", "rowsThen", "[I", true)
  | 26 => ("LentChangedModel", "seedNow", "J", false)
  | 27 => ("LentChangedModel", "thoughtOf", "[I", true)
  | 28 => ("LentChangedModel", "isKept", "Z", false)
  | 29 => ("LentChangedModel", "keptTown", "I", false)
  | 30 => ("LentChangedModel", "keptThings", "I", false)
  | 31 => ("LentChangedModel", "keptDays", "I", false)
  | 32 => ("LentChangedModel", "keptState", "[I", true)
  | 33 => ("LentChangedModel", "keptWho", "[I", true)
  | 34 => ("LentChangedModel", "keptStill", "[I", true)
  | 35 => ("LentChangedModel", "keptOften", "[I", true)
  | _ => ("LentChangedModel", "h", "J", false)
def tyX12 : Nat → FieldType := fun k => match k with
  | 0 => .int
  | 1 => .int
  | 2 => .array .int
  | 3 => .array .int
  | 4 => .array .int
  | 5 => .array .int
  | 6 => .int
  | 7 => .array .int
  | 8 => .array .int
  | 9 => .array .int
  | 10 => .array .int
  | 11 => .int
  | 12 => .int
  | 13 => .int
  | 14 => .array .byte
  | 15 => .int
  | 16 => .boolean
  | 17 => .int
  | 18 => .array .int
  | 19 => .array .int
  | 20 => .array .int
  | 21 => .array .int
  | 22 => .array .int
  | 23 => .array .int
  | 24 => .array .int
  | 25 => .array .int
  | 26 => .long
  | 27 => .array .int
  | 28 => .boolean
  | 29 => .int
  | 30 => .int
  | 31 => .int
  | 32 => .array .int
  | 33 => .array .int
  | 34 => .array .int
  | 35 => .array .int
  | _ => .long
abbrev wsX120 : List Cond := u_ws RX12 TX12 37
theorem nmX12 : ∀ a, a < 37 → ∀ b, b < 37 → a ≠ b → (TX12 a).2.1 ≠ (TX12 b).2.1 := by decide +kernel
theorem tyX12_ok : ∀ k, k < 37 → parseFieldDescriptor (TX12 k).2.2.1 = some (tyX12 k) := by decide +kernel
abbrev cX12_init : ByteArray := prog_14_method_1_code
def yX12_init : MethodName := ⟨RX12, "<init>", "()V"⟩
abbrev cX12_within : ByteArray := prog_14_method_3_code
def yX12_within : MethodName := ⟨RX12, "within", "(III)Z"⟩
abbrev cX12_size : ByteArray := prog_14_method_4_code
def yX12_size : MethodName := ⟨RX12, "size", "(I)I"⟩
abbrev cX12_letter : ByteArray := prog_14_method_5_code
def yX12_letter : MethodName := ⟨RX12, "letter", "(I)I"⟩
abbrev cX12_blank : ByteArray := prog_14_method_6_code
def yX12_blank : MethodName := ⟨RX12, "blank", "()I"⟩
abbrev cX12_kindBy : ByteArray := prog_14_method_7_code
def yX12_kindBy : MethodName := ⟨RX12, "kindBy", "(I)I"⟩
abbrev cX12_isGood : ByteArray := prog_14_method_8_code
def yX12_isGood : MethodName := ⟨RX12, "isGood", "(I)Z"⟩
abbrev cX12_readTown : ByteArray := prog_14_method_9_code
def yX12_readTown : MethodName := ⟨RX12, "readTown", "()V"⟩
abbrev cX12_readRound : ByteArray := prog_14_method_10_code
def yX12_readRound : MethodName := ⟨RX12, "readRound", "()V"⟩
abbrev cX12_fault : ByteArray := prog_14_method_11_code
def yX12_fault : MethodName := ⟨RX12, "fault", "(I)I"⟩
abbrev cX12_town : ByteArray := prog_14_method_12_code
def yX12_town : MethodName := ⟨RX12, "town", "()I"⟩
abbrev cX12_isBorrower : ByteArray := prog_14_method_13_code
def yX12_isBorrower : MethodName := ⟨RX12, "isBorrower", "(I)Z"⟩
abbrev cX12_isThing : ByteArray := prog_14_method_14_code
def yX12_isThing : MethodName := ⟨RX12, "isThing", "(I)Z"⟩
abbrev cX12_isState : ByteArray := prog_14_method_15_code
def yX12_isState : MethodName := ⟨RX12, "isState", "(I)Z"⟩
abbrev cX12_traitIn : ByteArray := prog_14_method_16_code
def yX12_traitIn : MethodName := ⟨RX12, "traitIn", "(II)I"⟩
abbrev cX12_with : ByteArray := prog_14_method_17_code
def yX12_with : MethodName := ⟨RX12, "with", "(III)I"⟩
abbrev cX12_made : ByteArray := prog_14_method_18_code
def yX12_made : MethodName := ⟨RX12, "made", "(II)I"⟩
abbrev cX12_whoseThing : ByteArray := prog_14_method_19_code
def yX12_whoseThing : MethodName := ⟨RX12, "whoseThing", "(I)I"⟩
abbrev cX12_borrowerNow : ByteArray := prog_14_method_20_code
def yX12_borrowerNow : MethodName := ⟨RX12, "borrowerNow", "(II)I"⟩
abbrev cX12_about : ByteArray := prog_14_method_21_code
def yX12_about : MethodName := ⟨RX12, "about", "(II)I"⟩
abbrev cX12_as : ByteArray := prog_14_method_22_code
def yX12_as : MethodName := ⟨RX12, "as", "(II)I"⟩
abbrev cX12_thing : ByteArray := prog_14_method_23_code
def yX12_thing : MethodName := ⟨RX12, "thing", "(I)I"⟩
abbrev cX12_homeState : ByteArray := prog_14_method_24_code
def yX12_homeState : MethodName := ⟨RX12, "homeState", "(I)I"⟩
abbrev cX12_thingNow : ByteArray := prog_14_method_25_code
def yX12_thingNow : MethodName := ⟨RX12, "thingNow", "(II)I"⟩
abbrev cX12_thingOf : ByteArray := prog_14_method_26_code
def yX12_thingOf : MethodName := ⟨RX12, "thingOf", "(II)I"⟩
abbrev cX12_lend : ByteArray := prog_14_method_27_code
def yX12_lend : MethodName := ⟨RX12, "lend", "(II)I"⟩
abbrev cX12_day : ByteArray := prog_14_method_28_code
def yX12_day : MethodName := ⟨RX12, "day", "()I"⟩
abbrev cX12_by : ByteArray := prog_14_method_29_code
def yX12_by : MethodName := ⟨RX12, "by", "(II)I"⟩
abbrev cX12_layWaves : ByteArray := prog_14_method_30_code
def yX12_layWaves : MethodName := ⟨RX12, "layWaves", "(IZI)V"⟩
abbrev cX12_goFrom : ByteArray := prog_14_method_31_code
def yX12_goFrom : MethodName := ⟨RX12, "goFrom", "(IZI)Z"⟩
abbrev cX12_wishedNow : ByteArray := prog_14_method_32_code
def yX12_wishedNow : MethodName := ⟨RX12, "wishedNow", "(III)I"⟩
abbrev cX12_wished : ByteArray := prog_14_method_33_code
def yX12_wished : MethodName := ⟨RX12, "wished", "(III)I"⟩
abbrev cX12_reachNow : ByteArray := prog_14_method_34_code
def yX12_reachNow : MethodName := ⟨RX12, "reachNow", "(I)I"⟩
abbrev cX12_reach : ByteArray := prog_14_method_35_code
def yX12_reach : MethodName := ⟨RX12, "reach", "(I)I"⟩
abbrev cX12_isSafe : ByteArray := prog_14_method_36_code
def yX12_isSafe : MethodName := ⟨RX12, "isSafe", "(IIII)Z"⟩
abbrev cX12_spoilersNow : ByteArray := prog_14_method_37_code
def yX12_spoilersNow : MethodName := ⟨RX12, "spoilersNow", "(III)I"⟩
abbrev cX12_spoilers : ByteArray := prog_14_method_38_code
def yX12_spoilers : MethodName := ⟨RX12, "spoilers", "(III)I"⟩
abbrev cX12_endsOf : ByteArray := prog_14_method_39_code
def yX12_endsOf : MethodName := ⟨RX12, "endsOf", "(I)I"⟩
abbrev cX12_backNow : ByteArray := prog_14_method_40_code
def yX12_backNow : MethodName := ⟨RX12, "backNow", "()I"⟩
abbrev cX12_round : ByteArray := prog_14_method_41_code
def yX12_round : MethodName := ⟨RX12, "round", "(II)I"⟩
abbrev cX12_rowsWithout : ByteArray := prog_14_method_42_code
def yX12_rowsWithout : MethodName := ⟨RX12, "rowsWithout", "(IIII)I"⟩
abbrev cX12_handsNow : ByteArray := prog_14_method_43_code
def yX12_handsNow : MethodName := ⟨RX12, "handsNow", "(IIII)I"⟩
abbrev cX12_hands : ByteArray := prog_14_method_44_code
def yX12_hands : MethodName := ⟨RX12, "hands", "(IIII)I"⟩
abbrev cX12_draw : ByteArray := prog_14_method_45_code
def yX12_draw : MethodName := ⟨RX12, "draw", "(I)I"⟩
abbrev cX12_traitsIn : ByteArray := prog_14_method_46_code
def yX12_traitsIn : MethodName := ⟨RX12, "traitsIn", "(I)I"⟩
abbrev cX12_yearsNow : ByteArray := prog_14_method_47_code
def yX12_yearsNow : MethodName := ⟨RX12, "yearsNow", "(III)I"⟩
abbrev cX12_years : ByteArray := prog_14_method_48_code
def yX12_years : MethodName := ⟨RX12, "years", "(III)I"⟩
abbrev cX12_image : ByteArray := prog_14_method_49_code
def yX12_image : MethodName := ⟨RX12, "image", "()I"⟩
abbrev cX12_restore : ByteArray := prog_14_method_50_code
def yX12_restore : MethodName := ⟨RX12, "restore", "()I"⟩
abbrev cX12_lentMany : ByteArray := prog_14_method_51_code
def yX12_lentMany : MethodName := ⟨RX12, "lentMany", "()I"⟩
abbrev cX12_traitsAll : ByteArray := prog_14_method_52_code
def yX12_traitsAll : MethodName := ⟨RX12, "traitsAll", "()I"⟩
abbrev cX12_howMany : ByteArray := prog_14_method_53_code
def yX12_howMany : MethodName := ⟨RX12, "howMany", "(I)I"⟩
abbrev cX12_count : ByteArray := prog_14_method_54_code
def yX12_count : MethodName := ⟨RX12, "count", "(I)I"⟩
abbrev cX12_mix : ByteArray := prog_14_method_55_code
def yX12_mix : MethodName := ⟨RX12, "mix", "(J)V"⟩
abbrev cX12_mixThing : ByteArray := prog_14_method_56_code
def yX12_mixThing : MethodName := ⟨RX12, "mixThing", "(I)V"⟩
abbrev cX12_digest : ByteArray := prog_14_method_57_code
def yX12_digest : MethodName := ⟨RX12, "digest", "()J"⟩
def RJ6 : String := "java/lang/Integer"
def TJ6 : u_T := fun k => match k with
  | _ => ("", "", "", false)
def tyJ6 : Nat → FieldType := fun k => match k with
  | _ => .int
abbrev wsJ60 : List Cond := u_ws RJ6 TJ6 0
theorem nmJ6 : ∀ a, a < 0 → ∀ b, b < 0 → a ≠ b → (TJ6 a).2.1 ≠ (TJ6 b).2.1 := by decide +kernel
theorem tyJ6_ok : ∀ k, k < 0 → parseFieldDescriptor (TJ6 k).2.2.1 = some (tyJ6 k) := by decide +kernel
abbrev cJ6_bitCount_0f7a4 : ByteArray := prog_15_method_49_code
def yJ6_bitCount_0f7a4 : MethodName := ⟨RJ6, "bitCount", "(I)I"⟩
def RJ9 : String := "java/lang/Math"
def TJ9 : u_T := fun k => match k with
  | _ => ("", "", "", false)
def tyJ9 : Nat → FieldType := fun k => match k with
  | _ => .int
abbrev wsJ90 : List Cond := u_ws RJ9 TJ9 0
theorem nmJ9 : ∀ a, a < 0 → ∀ b, b < 0 → a ≠ b → (TJ9 a).2.1 ≠ (TJ9 b).2.1 := by decide +kernel
theorem tyJ9_ok : ∀ k, k < 0 → parseFieldDescriptor (TJ9 k).2.2.1 = some (tyJ9 k) := by decide +kernel
abbrev cJ9_min_7cf53 : ByteArray := prog_16_method_69_code
def yJ9_min_7cf53 : MethodName := ⟨RJ9, "min", "(II)I"⟩
def RL : String := "LentChangedLaw"
abbrev cL_law : ByteArray := code
def yL_law : MethodName := ⟨RL, "law", "([I)Z"⟩
abbrev vwCl : List vw_C := [(RX0, TX0, 3), (RX1, TX1, 3), (RX2, TX2, 2), (RX3, TX3, 5), (RX4, TX4, 3), (RX5, TX5, 4), (RX6, TX6, 3), (RX7, TX7, 8), (RX8, TX8, 5), (RX9, TX9, 3), (RX10, TX10, 9), (RX11, TX11, 11), (RX12, TX12, 37)]
/-! the bundles: what a row wants of the tables, a theorem each -/
def spc : Cond → Bool
  | .methodLinkNest .. => true
  | .fieldLinkNest .. => true
  | .castable .. => true
  | .arrayOver (.object _) => true
  | _ => false
def uw (w : Cond) : Bool := goodWord w || spc w
def lw_g : List Cond := lw_tbl.filter goodWord
def lw_u : List Cond := lw_tbl.filter uw
theorem mem_u {w : Cond} (i : Nat) (h : lw_tbl[i]? = some w) (hg : uw w = true) : w ∈ lw_u := List.mem_filter.mpr ⟨List.mem_of_getElem? h, hg⟩
theorem in_by {ws : List Cond} (ps : List Nat) (hp : ws = ps.filterMap (fun i => lw_tbl[i]?)) (hg : ws.all uw = true) : ∀ w ∈ ws, w ∈ lw_u := by
  intro w hw
  refine List.mem_filter.mpr ⟨?_, List.all_eq_true.mp hg w hw⟩
  rw [hp] at hw
  obtain ⟨i, -, hi⟩ := List.mem_filterMap.mp hw
  exact List.mem_of_getElem? hi
theorem inX0 : ∀ w ∈ u_ws RX0 TX0 3, w ∈ lw_u := in_by [374, 375, 376] (by decide +kernel) (by decide +kernel)
theorem inX1 : ∀ w ∈ u_ws RX1 TX1 3, w ∈ lw_u := in_by [367, 368, 369] (by decide +kernel) (by decide +kernel)
theorem inX2 : ∀ w ∈ u_ws RX2 TX2 2, w ∈ lw_u := in_by [73, 75] (by decide +kernel) (by decide +kernel)
theorem inX3 : ∀ w ∈ u_ws RX3 TX3 5, w ∈ lw_u := in_by [207, 209, 211, 213, 215] (by decide +kernel) (by decide +kernel)
theorem inX4 : ∀ w ∈ u_ws RX4 TX4 3, w ∈ lw_u := in_by [334, 336, 338] (by decide +kernel) (by decide +kernel)
theorem inX5 : ∀ w ∈ u_ws RX5 TX5 4, w ∈ lw_u := in_by [187, 189, 191, 193] (by decide +kernel) (by decide +kernel)
theorem inX6 : ∀ w ∈ u_ws RX6 TX6 3, w ∈ lw_u := in_by [357, 358, 359] (by decide +kernel) (by decide +kernel)
theorem inX7 : ∀ w ∈ u_ws RX7 TX7 8, w ∈ lw_u := in_by [125, 127, 129, 131, 133, 135, 137, 139] (by decide +kernel) (by decide +kernel)
theorem inX8 : ∀ w ∈ u_ws RX8 TX8 5, w ∈ lw_u := in_by [97, 99, 101, 103, 105] (by decide +kernel) (by decide +kernel)
theorem inX9 : ∀ w ∈ u_ws RX9 TX9 3, w ∈ lw_u := in_by [347, 348, 349] (by decide +kernel) (by decide +kernel)
theorem inX10 : ∀ w ∈ u_ws RX10 TX10 9, w ∈ lw_u := in_by [158, 160, 162, 164, 166, 168, 170, 172, 174] (by decide +kernel) (by decide +kernel)
theorem inX11 : ∀ w ∈ u_ws RX11 TX11 11, w ∈ lw_u := in_by [229, 231, 233, 235, 237, 239, 241, 243, 245, 247, 249] (by decide +kernel) (by decide +kernel)
theorem inX12 : ∀ w ∈ u_ws RX12 TX12 37, w ∈ lw_u := in_by [770, 772, 774, 776, 778, 780, 782, 784, 786, 788, 790, 792, 794, 796, 798, 800, 802, 804, 806, 808, 810, 812, 814, 816, 818, 820, 822, 824, 826, 828, 830, 832, 834, 836, 838, 840, 842] (by decide +kernel) (by decide +kernel)
def LkF (own : String) (idx ci k : Nat) : Prop := ∃ (C : String) (T : u_T) (N : Nat) (ref : String), vwCl[ci]? = some (C, T, N) ∧ k < N ∧ (∀ w ∈ u_ws C T N, w ∈ lw_u) ∧ (Cond.fieldLink own idx ref (T k).2.1 (T k).2.2.1 ∈ lw_u ∨ ∃ host, Cond.fieldLinkNest own idx ref (T k).2.1 (T k).2.2.1 host ∈ lw_u) ∧ (ref = (T k).1 ∨ Cond.sameField ref (T k).1 (T k).2.1 (T k).2.2.1 ∈ lw_u)
def LkP (own : String) (idx ci k : Nat) (ty : FieldType) (fin : Bool) : Prop := ∃ (C : String) (T : u_T) (N : Nat) (ty0 : Nat → FieldType), vwCl[ci]? = some (C, T, N) ∧ k < N ∧ (∀ w ∈ u_ws C T N, w ∈ lw_u) ∧ (Cond.fieldLink own idx (T k).1 (T k).2.1 (T k).2.2.1 ∈ lw_u ∨ ∃ host, Cond.fieldLinkNest own idx (T k).1 (T k).2.1 (T k).2.2.1 host ∈ lw_u) ∧ (∀ k, k < N → parseFieldDescriptor (T k).2.2.1 = some (ty0 k)) ∧ (∀ a, a < N → ∀ b, b < N → a ≠ b → (T a).2.1 ≠ (T b).2.1) ∧ (T k).2.2.2 = fin ∧ ty0 k = ty ∧ (fin = true → (T k).1 = own)
def MkY (y : MethodName) (cc : ByteArray) (nL : Nat) (ret : Option FieldType) (n : Nat) : Prop := Cond.code y cc nL ret ∈ lw_u ∧ Cond.initialized y.cls ∈ lw_u ∧ (y.cls ≠ "java/lang/invoke/MethodHandle" ∧ y.cls ≠ "java/lang/invoke/VarHandle") ∧ (parseMethodDescriptor y.desc).map (fun d => d.parameters.length) = some n ∧ plainName y.cls = true
def LkK (own : String) (idx : Nat) (y : MethodName) : Prop := Cond.methodLink own idx y ∈ lw_u ∨ ∃ host, Cond.methodLinkNest own idx y host ∈ lw_u
def LkS (own : String) (idx : Nat) (y : MethodName) : Prop := LkK own idx y ∧ Cond.static y ∈ lw_u
def LkI (own : String) (idx : Nat) (y : MethodName) : Prop := LkK own idx y ∧ Cond.instanceMethod y ∈ lw_u ∧ y.name = "<init>"
def LkV (own : String) (idx : Nat) (y : MethodName) (ci : Nat) : Prop := Cond.methodLink own idx y ∈ lw_u ∧ Cond.instanceMethod y ∈ lw_u ∧ Cond.selects y.cls y y ∈ lw_u ∧ ∃ (T : u_T) (N : Nat), vwCl[ci]? = some (y.cls, T, N)
def LkU (own : String) (idx : Nat) (x y : MethodName) (ci : Nat) : Prop := ∃ (C : String) (T : u_T) (N : Nat) (owner : String) (b0 : ByteArray) (m0 : Nat) (r0 : Option FieldType), vwCl[ci]? = some (C, T, N) ∧ Cond.methodLink own idx x ∈ lw_u ∧ Cond.sameMethod x.cls owner x.name x.desc ∈ lw_u ∧ Cond.instanceMethod ⟨owner, x.name, x.desc⟩ ∈ lw_u ∧ Cond.code ⟨owner, x.name, x.desc⟩ b0 m0 r0 ∈ lw_u ∧ Cond.selects C x y ∈ lw_u ∧ Cond.instanceMethod y ∈ lw_u ∧ (owner ≠ "java/lang/invoke/MethodHandle" ∧ owner ≠ "java/lang/invoke/VarHandle") ∧ x.desc = y.desc
def LkN (own : String) (idx ci : Nat) (N : Nat) : Prop := ∃ (C : String) (T : u_T) (ty0 : Nat → FieldType), vwCl[ci]? = some (C, T, N) ∧ (∀ w ∈ u_ws C T N, w ∈ lw_u) ∧ (∀ k, k < N → parseFieldDescriptor (T k).2.2.1 = some (ty0 k)) ∧ Cond.classLink own idx C ∈ lw_u ∧ Cond.instantiable C N ∈ lw_u ∧ Cond.initialized C ∈ lw_u
theorem fl_X2_9_2 : LkF RX2 9 2 0 := ⟨RX2, TX2, 2, RX2, rfl, by decide, inX2, .inl (mem_u 69 (by decide +kernel) (by decide +kernel)), .inl rfl⟩
theorem pl_X2_9_2 : LkP RX2 9 2 0 (.array .int) true := ⟨RX2, TX2, 2, tyX2, rfl, by decide, inX2, .inl (mem_u 69 (by decide +kernel) (by decide +kernel)), tyX2_ok, nmX2, rfl, rfl, fun _ => rfl⟩
theorem fl_X2_15_2 : LkF RX2 15 2 1 := ⟨RX2, TX2, 2, RX2, rfl, by decide, inX2, .inl (mem_u 70 (by decide +kernel) (by decide +kernel)), .inl rfl⟩
theorem pl_X2_15_2 : LkP RX2 15 2 1 .int false := ⟨RX2, TX2, 2, tyX2, rfl, by decide, inX2, .inl (mem_u 70 (by decide +kernel) (by decide +kernel)), tyX2_ok, nmX2, rfl, rfl, fun h => absurd h (by decide)⟩
theorem fl_X8_11_8 : LkF RX8 11 8 0 := ⟨RX8, TX8, 5, RX8, rfl, by decide, inX8, .inl (mem_u 87 (by decide +kernel) (by decide +kernel)), .inl rfl⟩
theorem pl_X8_11_8 : LkP RX8 11 8 0 (.array (.object "LentChanged$Adder")) true := ⟨RX8, TX8, 5, tyX8, rfl, by decide, inX8, .inl (mem_u 87 (by decide +kernel) (by decide +kernel)), tyX8_ok, nmX8, rfl, rfl, fun _ => rfl⟩
theorem fl_X8_17_8 : LkF RX8 17 8 1 := ⟨RX8, TX8, 5, RX8, rfl, by decide, inX8, .inl (mem_u 88 (by decide +kernel) (by decide +kernel)), .inl rfl⟩
theorem pl_X8_17_8 : LkP RX8 17 8 1 (.array .int) true := ⟨RX8, TX8, 5, tyX8, rfl, by decide, inX8, .inl (mem_u 88 (by decide +kernel) (by decide +kernel)), tyX8_ok, nmX8, rfl, rfl, fun _ => rfl⟩
theorem fl_X8_21_8 : LkF RX8 21 8 2 := ⟨RX8, TX8, 5, RX8, rfl, by decide, inX8, .inl (mem_u 89 (by decide +kernel) (by decide +kernel)), .inl rfl⟩
theorem pl_X8_21_8 : LkP RX8 21 8 2 (.array .int) true := ⟨RX8, TX8, 5, tyX8, rfl, by decide, inX8, .inl (mem_u 89 (by decide +kernel) (by decide +kernel)), tyX8_ok, nmX8, rfl, rfl, fun _ => rfl⟩
theorem fl_X8_24_8 : LkF RX8 24 8 3 := ⟨RX8, TX8, 5, RX8, rfl, by decide, inX8, .inl (mem_u 90 (by decide +kernel) (by decide +kernel)), .inl rfl⟩
theorem pl_X8_24_8 : LkP RX8 24 8 3 (.array .int) true := ⟨RX8, TX8, 5, tyX8, rfl, by decide, inX8, .inl (mem_u 90 (by decide +kernel) (by decide +kernel)), tyX8_ok, nmX8, rfl, rfl, fun _ => rfl⟩
theorem fl_X8_38_8 : LkF RX8 38 8 4 := ⟨RX8, TX8, 5, RX8, rfl, by decide, inX8, .inl (mem_u 91 (by decide +kernel) (by decide +kernel)), .inl rfl⟩
theorem pl_X8_38_8 : LkP RX8 38 8 4 .int false := ⟨RX8, TX8, 5, tyX8, rfl, by decide, inX8, .inl (mem_u 91 (by decide +kernel) (by decide +kernel)), tyX8_ok, nmX8, rfl, rfl, fun h => absurd h (by decide)⟩
theorem fl_X7_9_7 : LkF RX7 9 7 0 := ⟨RX7, TX7, 8, RX7, rfl, by decide, inX7, .inl (mem_u 114 (by decide +kernel) (by decide +kernel)), .inl rfl⟩
theorem pl_X7_9_7 : LkP RX7 9 7 0 (.array .int) true := ⟨RX7, TX7, 8, tyX7, rfl, by decide, inX7, .inl (mem_u 114 (by decide +kernel) (by decide +kernel)), tyX7_ok, nmX7, rfl, rfl, fun _ => rfl⟩
theorem fl_X7_15_7 : LkF RX7 15 7 1 := ⟨RX7, TX7, 8, RX7, rfl, by decide, inX7, .inl (mem_u 115 (by decide +kernel) (by decide +kernel)), .inl rfl⟩
theorem pl_X7_15_7 : LkP RX7 15 7 1 (.array .int) true := ⟨RX7, TX7, 8, tyX7, rfl, by decide, inX7, .inl (mem_u 115 (by decide +kernel) (by decide +kernel)), tyX7_ok, nmX7, rfl, rfl, fun _ => rfl⟩
theorem fl_X7_18_7 : LkF RX7 18 7 2 := ⟨RX7, TX7, 8, RX7, rfl, by decide, inX7, .inl (mem_u 116 (by decide +kernel) (by decide +kernel)), .inl rfl⟩
theorem pl_X7_18_7 : LkP RX7 18 7 2 (.array .int) true := ⟨RX7, TX7, 8, tyX7, rfl, by decide, inX7, .inl (mem_u 116 (by decide +kernel) (by decide +kernel)), tyX7_ok, nmX7, rfl, rfl, fun _ => rfl⟩
theorem fl_X7_21_7 : LkF RX7 21 7 3 := ⟨RX7, TX7, 8, RX7, rfl, by decide, inX7, .inl (mem_u 117 (by decide +kernel) (by decide +kernel)), .inl rfl⟩
theorem pl_X7_21_7 : LkP RX7 21 7 3 (.array .int) true := ⟨RX7, TX7, 8, tyX7, rfl, by decide, inX7, .inl (mem_u 117 (by decide +kernel) (by decide +kernel)), tyX7_ok, nmX7, rfl, rfl, fun _ => rfl⟩
theorem fl_X7_27_7 : LkF RX7 27 7 4 := ⟨RX7, TX7, 8, RX7, rfl, by decide, inX7, .inl (mem_u 118 (by decide +kernel) (by decide +kernel)), .inl rfl⟩
theorem pl_X7_27_7 : LkP RX7 27 7 4 .int false := ⟨RX7, TX7, 8, tyX7, rfl, by decide, inX7, .inl (mem_u 118 (by decide +kernel) (by decide +kernel)), tyX7_ok, nmX7, rfl, rfl, fun h => absurd h (by decide)⟩
theorem fl_X7_31_7 : LkF RX7 31 7 5 := ⟨RX7, TX7, 8, RX7, rfl, by decide, inX7, .inl (mem_u 120 (by decide +kernel) (by decide +kernel)), .inl rfl⟩
theorem pl_X7_31_7 : LkP RX7 31 7 5 .int false := ⟨RX7, TX7, 8, tyX7, rfl, by decide, inX7, .inl (mem_u 120 (by decide +kernel) (by decide +kernel)), tyX7_ok, nmX7, rfl, rfl, fun h => absurd h (by decide)⟩
theorem fl_X7_24_7 : LkF RX7 24 7 6 := ⟨RX7, TX7, 8, RX7, rfl, by decide, inX7, .inl (mem_u 122 (by decide +kernel) (by decide +kernel)), .inl rfl⟩
theorem pl_X7_24_7 : LkP RX7 24 7 6 (.array .int) true := ⟨RX7, TX7, 8, tyX7, rfl, by decide, inX7, .inl (mem_u 122 (by decide +kernel) (by decide +kernel)), tyX7_ok, nmX7, rfl, rfl, fun _ => rfl⟩
theorem fl_X7_64_7 : LkF RX7 64 7 7 := ⟨RX7, TX7, 8, RX7, rfl, by decide, inX7, .inl (mem_u 123 (by decide +kernel) (by decide +kernel)), .inl rfl⟩
theorem pl_X7_64_7 : LkP RX7 64 7 7 .int false := ⟨RX7, TX7, 8, tyX7, rfl, by decide, inX7, .inl (mem_u 123 (by decide +kernel) (by decide +kernel)), tyX7_ok, nmX7, rfl, rfl, fun h => absurd h (by decide)⟩
theorem fl_X10_31_10 : LkF RX10 31 10 0 := ⟨RX10, TX10, 9, RX10, rfl, by decide, inX10, .inl (mem_u 148 (by decide +kernel) (by decide +kernel)), .inl rfl⟩
theorem pl_X10_31_10 : LkP RX10 31 10 0 (.object "LentChanged$Town") true := ⟨RX10, TX10, 9, tyX10, rfl, by decide, inX10, .inl (mem_u 148 (by decide +kernel) (by decide +kernel)), tyX10_ok, nmX10, rfl, rfl, fun _ => rfl⟩
theorem fl_X10_35_10 : LkF RX10 35 10 1 := ⟨RX10, TX10, 9, RX10, rfl, by decide, inX10, .inl (mem_u 149 (by decide +kernel) (by decide +kernel)), .inl rfl⟩
theorem pl_X10_35_10 : LkP RX10 35 10 1 .boolean true := ⟨RX10, TX10, 9, tyX10, rfl, by decide, inX10, .inl (mem_u 149 (by decide +kernel) (by decide +kernel)), tyX10_ok, nmX10, rfl, rfl, fun _ => rfl⟩
theorem fl_X10_9_10 : LkF RX10 9 10 2 := ⟨RX10, TX10, 9, RX10, rfl, by decide, inX10, .inl (mem_u 150 (by decide +kernel) (by decide +kernel)), .inl rfl⟩
theorem pl_X10_9_10 : LkP RX10 9 10 2 (.array .int) true := ⟨RX10, TX10, 9, tyX10, rfl, by decide, inX10, .inl (mem_u 150 (by decide +kernel) (by decide +kernel)), tyX10_ok, nmX10, rfl, rfl, fun _ => rfl⟩
theorem fl_X10_15_10 : LkF RX10 15 10 3 := ⟨RX10, TX10, 9, RX10, rfl, by decide, inX10, .inl (mem_u 151 (by decide +kernel) (by decide +kernel)), .inl rfl⟩
theorem pl_X10_15_10 : LkP RX10 15 10 3 (.array .int) true := ⟨RX10, TX10, 9, tyX10, rfl, by decide, inX10, .inl (mem_u 151 (by decide +kernel) (by decide +kernel)), tyX10_ok, nmX10, rfl, rfl, fun _ => rfl⟩
theorem fl_X10_18_10 : LkF RX10 18 10 4 := ⟨RX10, TX10, 9, RX10, rfl, by decide, inX10, .inl (mem_u 152 (by decide +kernel) (by decide +kernel)), .inl rfl⟩
theorem pl_X10_18_10 : LkP RX10 18 10 4 (.array .int) true := ⟨RX10, TX10, 9, tyX10, rfl, by decide, inX10, .inl (mem_u 152 (by decide +kernel) (by decide +kernel)), tyX10_ok, nmX10, rfl, rfl, fun _ => rfl⟩
theorem fl_X10_21_10 : LkF RX10 21 10 5 := ⟨RX10, TX10, 9, RX10, rfl, by decide, inX10, .inl (mem_u 153 (by decide +kernel) (by decide +kernel)), .inl rfl⟩
theorem pl_X10_21_10 : LkP RX10 21 10 5 (.array .int) true := ⟨RX10, TX10, 9, tyX10, rfl, by decide, inX10, .inl (mem_u 153 (by decide +kernel) (by decide +kernel)), tyX10_ok, nmX10, rfl, rfl, fun _ => rfl⟩
theorem fl_X10_24_10 : LkF RX10 24 10 6 := ⟨RX10, TX10, 9, RX10, rfl, by decide, inX10, .inl (mem_u 154 (by decide +kernel) (by decide +kernel)), .inl rfl⟩
theorem pl_X10_24_10 : LkP RX10 24 10 6 (.array .int) true := ⟨RX10, TX10, 9, tyX10, rfl, by decide, inX10, .inl (mem_u 154 (by decide +kernel) (by decide +kernel)), tyX10_ok, nmX10, rfl, rfl, fun _ => rfl⟩
theorem fl_X10_27_10 : LkF RX10 27 10 7 := ⟨RX10, TX10, 9, RX10, rfl, by decide, inX10, .inl (mem_u 155 (by decide +kernel) (by decide +kernel)), .inl rfl⟩
theorem pl_X10_27_10 : LkP RX10 27 10 7 .int false := ⟨RX10, TX10, 9, tyX10, rfl, by decide, inX10, .inl (mem_u 155 (by decide +kernel) (by decide +kernel)), tyX10_ok, nmX10, rfl, rfl, fun h => absurd h (by decide)⟩
theorem fl_X10_47_10 : LkF RX10 47 10 8 := ⟨RX10, TX10, 9, RX10, rfl, by decide, inX10, .inl (mem_u 156 (by decide +kernel) (by decide +kernel)), .inl rfl⟩
theorem pl_X10_47_10 : LkP RX10 47 10 8 .int false := ⟨RX10, TX10, 9, tyX10, rfl, by decide, inX10, .inl (mem_u 156 (by decide +kernel) (by decide +kernel)), tyX10_ok, nmX10, rfl, rfl, fun h => absurd h (by decide)⟩
theorem fl_X5_18_5 : LkF RX5 18 5 0 := ⟨RX5, TX5, 4, RX5, rfl, by decide, inX5, .inl (mem_u 183 (by decide +kernel) (by decide +kernel)), .inl rfl⟩
theorem pl_X5_18_5 : LkP RX5 18 5 0 (.object "LentChanged$Town") true := ⟨RX5, TX5, 4, tyX5, rfl, by decide, inX5, .inl (mem_u 183 (by decide +kernel) (by decide +kernel)), tyX5_ok, nmX5, rfl, rfl, fun _ => rfl⟩
theorem fl_X5_9_5 : LkF RX5 9 5 1 := ⟨RX5, TX5, 4, RX5, rfl, by decide, inX5, .inl (mem_u 184 (by decide +kernel) (by decide +kernel)), .inl rfl⟩
theorem pl_X5_9_5 : LkP RX5 9 5 1 (.array .int) true := ⟨RX5, TX5, 4, tyX5, rfl, by decide, inX5, .inl (mem_u 184 (by decide +kernel) (by decide +kernel)), tyX5_ok, nmX5, rfl, rfl, fun _ => rfl⟩
theorem fl_X5_15_5 : LkF RX5 15 5 2 := ⟨RX5, TX5, 4, RX5, rfl, by decide, inX5, .inl (mem_u 185 (by decide +kernel) (by decide +kernel)), .inl rfl⟩
theorem pl_X5_15_5 : LkP RX5 15 5 2 (.array .int) true := ⟨RX5, TX5, 4, tyX5, rfl, by decide, inX5, .inl (mem_u 185 (by decide +kernel) (by decide +kernel)), tyX5_ok, nmX5, rfl, rfl, fun _ => rfl⟩
theorem fl_X5_42_5 : LkF RX5 42 5 3 := ⟨RX5, TX5, 4, RX5, rfl, by decide, inX5, .inl (mem_u 186 (by decide +kernel) (by decide +kernel)), .inl rfl⟩
theorem pl_X5_42_5 : LkP RX5 42 5 3 .int false := ⟨RX5, TX5, 4, tyX5, rfl, by decide, inX5, .inl (mem_u 186 (by decide +kernel) (by decide +kernel)), tyX5_ok, nmX5, rfl, rfl, fun h => absurd h (by decide)⟩
theorem fl_X3_24_3 : LkF RX3 24 3 0 := ⟨RX3, TX3, 5, RX3, rfl, by decide, inX3, .inl (mem_u 202 (by decide +kernel) (by decide +kernel)), .inl rfl⟩
theorem pl_X3_24_3 : LkP RX3 24 3 0 (.object "LentChanged$Town") true := ⟨RX3, TX3, 5, tyX3, rfl, by decide, inX3, .inl (mem_u 202 (by decide +kernel) (by decide +kernel)), tyX3_ok, nmX3, rfl, rfl, fun _ => rfl⟩
theorem fl_X3_9_3 : LkF RX3 9 3 1 := ⟨RX3, TX3, 5, RX3, rfl, by decide, inX3, .inl (mem_u 203 (by decide +kernel) (by decide +kernel)), .inl rfl⟩
theorem pl_X3_9_3 : LkP RX3 9 3 1 (.array .int) false := ⟨RX3, TX3, 5, tyX3, rfl, by decide, inX3, .inl (mem_u 203 (by decide +kernel) (by decide +kernel)), tyX3_ok, nmX3, rfl, rfl, fun h => absurd h (by decide)⟩
theorem fl_X3_15_3 : LkF RX3 15 3 2 := ⟨RX3, TX3, 5, RX3, rfl, by decide, inX3, .inl (mem_u 204 (by decide +kernel) (by decide +kernel)), .inl rfl⟩
theorem pl_X3_15_3 : LkP RX3 15 3 2 (.array .int) false := ⟨RX3, TX3, 5, tyX3, rfl, by decide, inX3, .inl (mem_u 204 (by decide +kernel) (by decide +kernel)), tyX3_ok, nmX3, rfl, rfl, fun h => absurd h (by decide)⟩
theorem fl_X3_18_3 : LkF RX3 18 3 3 := ⟨RX3, TX3, 5, RX3, rfl, by decide, inX3, .inl (mem_u 205 (by decide +kernel) (by decide +kernel)), .inl rfl⟩
theorem pl_X3_18_3 : LkP RX3 18 3 3 (.array .int) false := ⟨RX3, TX3, 5, tyX3, rfl, by decide, inX3, .inl (mem_u 205 (by decide +kernel) (by decide +kernel)), tyX3_ok, nmX3, rfl, rfl, fun h => absurd h (by decide)⟩
theorem fl_X3_21_3 : LkF RX3 21 3 4 := ⟨RX3, TX3, 5, RX3, rfl, by decide, inX3, .inl (mem_u 206 (by decide +kernel) (by decide +kernel)), .inl rfl⟩
theorem pl_X3_21_3 : LkP RX3 21 3 4 (.array .int) false := ⟨RX3, TX3, 5, tyX3, rfl, by decide, inX3, .inl (mem_u 206 (by decide +kernel) (by decide +kernel)), tyX3_ok, nmX3, rfl, rfl, fun h => absurd h (by decide)⟩
theorem fl_X11_10_11 : LkF RX11 10 11 0 := ⟨RX11, TX11, 11, RX11, rfl, by decide, inX11, .inl (mem_u 218 (by decide +kernel) (by decide +kernel)), .inl rfl⟩
theorem pl_X11_10_11 : LkP RX11 10 11 0 (.object "LentChanged$Page") true := ⟨RX11, TX11, 11, tyX11, rfl, by decide, inX11, .inl (mem_u 218 (by decide +kernel) (by decide +kernel)), tyX11_ok, nmX11, rfl, rfl, fun _ => rfl⟩
theorem fl_X11_19_11 : LkF RX11 19 11 1 := ⟨RX11, TX11, 11, RX11, rfl, by decide, inX11, .inl (mem_u 219 (by decide +kernel) (by decide +kernel)), .inl rfl⟩
theorem pl_X11_19_11 : LkP RX11 19 11 1 (.object "LentChanged$Town") true := ⟨RX11, TX11, 11, tyX11, rfl, by decide, inX11, .inl (mem_u 219 (by decide +kernel) (by decide +kernel)), tyX11_ok, nmX11, rfl, rfl, fun _ => rfl⟩
theorem fl_X11_26_11 : LkF RX11 26 11 2 := ⟨RX11, TX11, 11, RX11, rfl, by decide, inX11, .inl (mem_u 220 (by decide +kernel) (by decide +kernel)), .inl rfl⟩
theorem pl_X11_26_11 : LkP RX11 26 11 2 (.object "LentChanged$Things") true := ⟨RX11, TX11, 11, tyX11, rfl, by decide, inX11, .inl (mem_u 220 (by decide +kernel) (by decide +kernel)), tyX11_ok, nmX11, rfl, rfl, fun _ => rfl⟩
theorem fl_X11_30_11 : LkF RX11 30 11 3 := ⟨RX11, TX11, 11, RX11, rfl, by decide, inX11, .inl (mem_u 221 (by decide +kernel) (by decide +kernel)), .inl rfl⟩
theorem pl_X11_30_11 : LkP RX11 30 11 3 (.object "LentChanged$Things") true := ⟨RX11, TX11, 11, tyX11, rfl, by decide, inX11, .inl (mem_u 221 (by decide +kernel) (by decide +kernel)), tyX11_ok, nmX11, rfl, rfl, fun _ => rfl⟩
theorem fl_X11_38_11 : LkF RX11 38 11 4 := ⟨RX11, TX11, 11, RX11, rfl, by decide, inX11, .inl (mem_u 222 (by decide +kernel) (by decide +kernel)), .inl rfl⟩
theorem pl_X11_38_11 : LkP RX11 38 11 4 (.object "LentChanged$Ways") true := ⟨RX11, TX11, 11, tyX11, rfl, by decide, inX11, .inl (mem_u 222 (by decide +kernel) (by decide +kernel)), tyX11_ok, nmX11, rfl, rfl, fun _ => rfl⟩
theorem fl_X11_42_11 : LkF RX11 42 11 5 := ⟨RX11, TX11, 11, RX11, rfl, by decide, inX11, .inl (mem_u 223 (by decide +kernel) (by decide +kernel)), .inl rfl⟩
theorem pl_X11_42_11 : LkP RX11 42 11 5 (.object "LentChanged$Ways") true := ⟨RX11, TX11, 11, tyX11, rfl, by decide, inX11, .inl (mem_u 223 (by decide +kernel) (by decide +kernel)), tyX11_ok, nmX11, rfl, rfl, fun _ => rfl⟩
theorem fl_X11_50_11 : LkF RX11 50 11 6 := ⟨RX11, TX11, 11, RX11, rfl, by decide, inX11, .inl (mem_u 224 (by decide +kernel) (by decide +kernel)), .inl rfl⟩
theorem pl_X11_50_11 : LkP RX11 50 11 6 (.object "LentChanged$Spoiling") true := ⟨RX11, TX11, 11, tyX11, rfl, by decide, inX11, .inl (mem_u 224 (by decide +kernel) (by decide +kernel)), tyX11_ok, nmX11, rfl, rfl, fun _ => rfl⟩
theorem fl_X11_57_11 : LkF RX11 57 11 7 := ⟨RX11, TX11, 11, RX11, rfl, by decide, inX11, .inl (mem_u 225 (by decide +kernel) (by decide +kernel)), .inl rfl⟩
theorem pl_X11_57_11 : LkP RX11 57 11 7 (.object "LentChanged$Rows") true := ⟨RX11, TX11, 11, tyX11, rfl, by decide, inX11, .inl (mem_u 225 (by decide +kernel) (by decide +kernel)), tyX11_ok, nmX11, rfl, rfl, fun _ => rfl⟩
theorem fl_X11_94_11 : LkF RX11 94 11 8 := ⟨RX11, TX11, 11, RX11, rfl, by decide, inX11, .inl (mem_u 226 (by decide +kernel) (by decide +kernel)), .inl rfl⟩
theorem pl_X11_94_11 : LkP RX11 94 11 8 .boolean false := ⟨RX11, TX11, 11, tyX11, rfl, by decide, inX11, .inl (mem_u 226 (by decide +kernel) (by decide +kernel)), tyX11_ok, nmX11, rfl, rfl, fun h => absurd h (by decide)⟩
theorem fl_X11_98_11 : LkF RX11 98 11 9 := ⟨RX11, TX11, 11, RX11, rfl, by decide, inX11, .inl (mem_u 227 (by decide +kernel) (by decide +kernel)), .inl rfl⟩
theorem pl_X11_98_11 : LkP RX11 98 11 9 .int false := ⟨RX11, TX11, 11, tyX11, rfl, by decide, inX11, .inl (mem_u 227 (by decide +kernel) (by decide +kernel)), tyX11_ok, nmX11, rfl, rfl, fun h => absurd h (by decide)⟩
theorem fl_X11_197_11 : LkF RX11 197 11 10 := ⟨RX11, TX11, 11, RX11, rfl, by decide, inX11, .inl (mem_u 228 (by decide +kernel) (by decide +kernel)), .inl rfl⟩
theorem pl_X11_197_11 : LkP RX11 197 11 10 .int false := ⟨RX11, TX11, 11, tyX11, rfl, by decide, inX11, .inl (mem_u 228 (by decide +kernel) (by decide +kernel)), tyX11_ok, nmX11, rfl, rfl, fun h => absurd h (by decide)⟩
theorem fl_X0_9_0 : LkF RX0 9 0 0 := ⟨RX0, TX0, 3, RX0, rfl, by decide, inX0, .inl (mem_u 323 (by decide +kernel) (by decide +kernel)), .inl rfl⟩
theorem pl_X0_9_0 : LkP RX0 9 0 0 .int true := ⟨RX0, TX0, 3, tyX0, rfl, by decide, inX0, .inl (mem_u 323 (by decide +kernel) (by decide +kernel)), tyX0_ok, nmX0, rfl, rfl, fun _ => rfl⟩
theorem fl_X0_9_1 : LkF RX0 9 1 0 := ⟨RX1, TX1, 3, RX0, rfl, by decide, inX1, .inl (mem_u 323 (by decide +kernel) (by decide +kernel)), .inl rfl⟩
theorem pl_X0_9_1 : LkP RX0 9 1 0 .int true := ⟨RX1, TX1, 3, tyX1, rfl, by decide, inX1, .inl (mem_u 323 (by decide +kernel) (by decide +kernel)), tyX1_ok, nmX1, rfl, rfl, fun _ => rfl⟩
theorem fl_X0_9_4 : LkF RX0 9 4 0 := ⟨RX4, TX4, 3, RX0, rfl, by decide, inX4, .inl (mem_u 323 (by decide +kernel) (by decide +kernel)), .inl rfl⟩
theorem pl_X0_9_4 : LkP RX0 9 4 0 .int true := ⟨RX4, TX4, 3, tyX4, rfl, by decide, inX4, .inl (mem_u 323 (by decide +kernel) (by decide +kernel)), tyX4_ok, nmX4, rfl, rfl, fun _ => rfl⟩
theorem fl_X0_9_6 : LkF RX0 9 6 0 := ⟨RX6, TX6, 3, RX0, rfl, by decide, inX6, .inl (mem_u 323 (by decide +kernel) (by decide +kernel)), .inl rfl⟩
theorem pl_X0_9_6 : LkP RX0 9 6 0 .int true := ⟨RX6, TX6, 3, tyX6, rfl, by decide, inX6, .inl (mem_u 323 (by decide +kernel) (by decide +kernel)), tyX6_ok, nmX6, rfl, rfl, fun _ => rfl⟩
theorem fl_X0_9_9 : LkF RX0 9 9 0 := ⟨RX9, TX9, 3, RX0, rfl, by decide, inX9, .inl (mem_u 323 (by decide +kernel) (by decide +kernel)), .inl rfl⟩
theorem pl_X0_9_9 : LkP RX0 9 9 0 .int true := ⟨RX9, TX9, 3, tyX9, rfl, by decide, inX9, .inl (mem_u 323 (by decide +kernel) (by decide +kernel)), tyX9_ok, nmX9, rfl, rfl, fun _ => rfl⟩
theorem fl_X6_9_6 : LkF RX6 9 6 0 := ⟨RX6, TX6, 3, RX6, rfl, by decide, inX6, .inl (mem_u 324 (by decide +kernel) (by decide +kernel)), .inr (mem_u 325 (by decide +kernel) (by decide +kernel))⟩
theorem fl_X11_110_0 : LkF RX11 110 0 0 := ⟨RX0, TX0, 3, RX0, rfl, by decide, inX0, .inl (mem_u 326 (by decide +kernel) (by decide +kernel)), .inl rfl⟩
theorem fl_X11_110_1 : LkF RX11 110 1 0 := ⟨RX1, TX1, 3, RX0, rfl, by decide, inX1, .inl (mem_u 326 (by decide +kernel) (by decide +kernel)), .inl rfl⟩
theorem fl_X11_110_4 : LkF RX11 110 4 0 := ⟨RX4, TX4, 3, RX0, rfl, by decide, inX4, .inl (mem_u 326 (by decide +kernel) (by decide +kernel)), .inl rfl⟩
theorem fl_X11_110_6 : LkF RX11 110 6 0 := ⟨RX6, TX6, 3, RX0, rfl, by decide, inX6, .inl (mem_u 326 (by decide +kernel) (by decide +kernel)), .inl rfl⟩
theorem fl_X11_110_9 : LkF RX11 110 9 0 := ⟨RX9, TX9, 3, RX0, rfl, by decide, inX9, .inl (mem_u 326 (by decide +kernel) (by decide +kernel)), .inl rfl⟩
theorem fl_X0_15_0 : LkF RX0 15 0 1 := ⟨RX0, TX0, 3, RX0, rfl, by decide, inX0, .inl (mem_u 327 (by decide +kernel) (by decide +kernel)), .inl rfl⟩
theorem pl_X0_15_0 : LkP RX0 15 0 1 .int true := ⟨RX0, TX0, 3, tyX0, rfl, by decide, inX0, .inl (mem_u 327 (by decide +kernel) (by decide +kernel)), tyX0_ok, nmX0, rfl, rfl, fun _ => rfl⟩
theorem fl_X0_15_1 : LkF RX0 15 1 1 := ⟨RX1, TX1, 3, RX0, rfl, by decide, inX1, .inl (mem_u 327 (by decide +kernel) (by decide +kernel)), .inl rfl⟩
theorem pl_X0_15_1 : LkP RX0 15 1 1 .int true := ⟨RX1, TX1, 3, tyX1, rfl, by decide, inX1, .inl (mem_u 327 (by decide +kernel) (by decide +kernel)), tyX1_ok, nmX1, rfl, rfl, fun _ => rfl⟩
theorem fl_X0_15_4 : LkF RX0 15 4 1 := ⟨RX4, TX4, 3, RX0, rfl, by decide, inX4, .inl (mem_u 327 (by decide +kernel) (by decide +kernel)), .inl rfl⟩
theorem pl_X0_15_4 : LkP RX0 15 4 1 .int true := ⟨RX4, TX4, 3, tyX4, rfl, by decide, inX4, .inl (mem_u 327 (by decide +kernel) (by decide +kernel)), tyX4_ok, nmX4, rfl, rfl, fun _ => rfl⟩
theorem fl_X0_15_6 : LkF RX0 15 6 1 := ⟨RX6, TX6, 3, RX0, rfl, by decide, inX6, .inl (mem_u 327 (by decide +kernel) (by decide +kernel)), .inl rfl⟩
theorem pl_X0_15_6 : LkP RX0 15 6 1 .int true := ⟨RX6, TX6, 3, tyX6, rfl, by decide, inX6, .inl (mem_u 327 (by decide +kernel) (by decide +kernel)), tyX6_ok, nmX6, rfl, rfl, fun _ => rfl⟩
theorem fl_X0_15_9 : LkF RX0 15 9 1 := ⟨RX9, TX9, 3, RX0, rfl, by decide, inX9, .inl (mem_u 327 (by decide +kernel) (by decide +kernel)), .inl rfl⟩
theorem pl_X0_15_9 : LkP RX0 15 9 1 .int true := ⟨RX9, TX9, 3, tyX9, rfl, by decide, inX9, .inl (mem_u 327 (by decide +kernel) (by decide +kernel)), tyX9_ok, nmX9, rfl, rfl, fun _ => rfl⟩
theorem fl_X4_9_1 : LkF RX4 9 1 1 := ⟨RX1, TX1, 3, RX4, rfl, by decide, inX1, .inl (mem_u 328 (by decide +kernel) (by decide +kernel)), .inr (mem_u 329 (by decide +kernel) (by decide +kernel))⟩
theorem fl_X4_9_4 : LkF RX4 9 4 1 := ⟨RX4, TX4, 3, RX4, rfl, by decide, inX4, .inl (mem_u 328 (by decide +kernel) (by decide +kernel)), .inr (mem_u 329 (by decide +kernel) (by decide +kernel))⟩
theorem fl_X11_113_0 : LkF RX11 113 0 1 := ⟨RX0, TX0, 3, RX0, rfl, by decide, inX0, .inl (mem_u 330 (by decide +kernel) (by decide +kernel)), .inl rfl⟩
theorem fl_X11_113_1 : LkF RX11 113 1 1 := ⟨RX1, TX1, 3, RX0, rfl, by decide, inX1, .inl (mem_u 330 (by decide +kernel) (by decide +kernel)), .inl rfl⟩
theorem fl_X11_113_4 : LkF RX11 113 4 1 := ⟨RX4, TX4, 3, RX0, rfl, by decide, inX4, .inl (mem_u 330 (by decide +kernel) (by decide +kernel)), .inl rfl⟩
theorem fl_X11_113_6 : LkF RX11 113 6 1 := ⟨RX6, TX6, 3, RX0, rfl, by decide, inX6, .inl (mem_u 330 (by decide +kernel) (by decide +kernel)), .inl rfl⟩
theorem fl_X11_113_9 : LkF RX11 113 9 1 := ⟨RX9, TX9, 3, RX0, rfl, by decide, inX9, .inl (mem_u 330 (by decide +kernel) (by decide +kernel)), .inl rfl⟩
theorem fl_X0_18_0 : LkF RX0 18 0 2 := ⟨RX0, TX0, 3, RX0, rfl, by decide, inX0, .inl (mem_u 331 (by decide +kernel) (by decide +kernel)), .inl rfl⟩
theorem pl_X0_18_0 : LkP RX0 18 0 2 .int true := ⟨RX0, TX0, 3, tyX0, rfl, by decide, inX0, .inl (mem_u 331 (by decide +kernel) (by decide +kernel)), tyX0_ok, nmX0, rfl, rfl, fun _ => rfl⟩
theorem fl_X0_18_1 : LkF RX0 18 1 2 := ⟨RX1, TX1, 3, RX0, rfl, by decide, inX1, .inl (mem_u 331 (by decide +kernel) (by decide +kernel)), .inl rfl⟩
theorem pl_X0_18_1 : LkP RX0 18 1 2 .int true := ⟨RX1, TX1, 3, tyX1, rfl, by decide, inX1, .inl (mem_u 331 (by decide +kernel) (by decide +kernel)), tyX1_ok, nmX1, rfl, rfl, fun _ => rfl⟩
theorem fl_X0_18_4 : LkF RX0 18 4 2 := ⟨RX4, TX4, 3, RX0, rfl, by decide, inX4, .inl (mem_u 331 (by decide +kernel) (by decide +kernel)), .inl rfl⟩
theorem pl_X0_18_4 : LkP RX0 18 4 2 .int true := ⟨RX4, TX4, 3, tyX4, rfl, by decide, inX4, .inl (mem_u 331 (by decide +kernel) (by decide +kernel)), tyX4_ok, nmX4, rfl, rfl, fun _ => rfl⟩
theorem fl_X0_18_6 : LkF RX0 18 6 2 := ⟨RX6, TX6, 3, RX0, rfl, by decide, inX6, .inl (mem_u 331 (by decide +kernel) (by decide +kernel)), .inl rfl⟩
theorem pl_X0_18_6 : LkP RX0 18 6 2 .int true := ⟨RX6, TX6, 3, tyX6, rfl, by decide, inX6, .inl (mem_u 331 (by decide +kernel) (by decide +kernel)), tyX6_ok, nmX6, rfl, rfl, fun _ => rfl⟩
theorem fl_X0_18_9 : LkF RX0 18 9 2 := ⟨RX9, TX9, 3, RX0, rfl, by decide, inX9, .inl (mem_u 331 (by decide +kernel) (by decide +kernel)), .inl rfl⟩
theorem pl_X0_18_9 : LkP RX0 18 9 2 .int true := ⟨RX9, TX9, 3, tyX9, rfl, by decide, inX9, .inl (mem_u 331 (by decide +kernel) (by decide +kernel)), tyX9_ok, nmX9, rfl, rfl, fun _ => rfl⟩
theorem fl_X8_57_0 : LkF RX8 57 0 2 := ⟨RX0, TX0, 3, RX0, rfl, by decide, inX0, .inl (mem_u 332 (by decide +kernel) (by decide +kernel)), .inl rfl⟩
theorem fl_X8_57_1 : LkF RX8 57 1 2 := ⟨RX1, TX1, 3, RX0, rfl, by decide, inX1, .inl (mem_u 332 (by decide +kernel) (by decide +kernel)), .inl rfl⟩
theorem fl_X8_57_4 : LkF RX8 57 4 2 := ⟨RX4, TX4, 3, RX0, rfl, by decide, inX4, .inl (mem_u 332 (by decide +kernel) (by decide +kernel)), .inl rfl⟩
theorem fl_X8_57_6 : LkF RX8 57 6 2 := ⟨RX6, TX6, 3, RX0, rfl, by decide, inX6, .inl (mem_u 332 (by decide +kernel) (by decide +kernel)), .inl rfl⟩
theorem fl_X8_57_9 : LkF RX8 57 9 2 := ⟨RX9, TX9, 3, RX0, rfl, by decide, inX9, .inl (mem_u 332 (by decide +kernel) (by decide +kernel)), .inl rfl⟩
theorem fl_X11_116_0 : LkF RX11 116 0 2 := ⟨RX0, TX0, 3, RX0, rfl, by decide, inX0, .inl (mem_u 333 (by decide +kernel) (by decide +kernel)), .inl rfl⟩
theorem fl_X11_116_1 : LkF RX11 116 1 2 := ⟨RX1, TX1, 3, RX0, rfl, by decide, inX1, .inl (mem_u 333 (by decide +kernel) (by decide +kernel)), .inl rfl⟩
theorem fl_X11_116_4 : LkF RX11 116 4 2 := ⟨RX4, TX4, 3, RX0, rfl, by decide, inX4, .inl (mem_u 333 (by decide +kernel) (by decide +kernel)), .inl rfl⟩
theorem fl_X11_116_6 : LkF RX11 116 6 2 := ⟨RX6, TX6, 3, RX0, rfl, by decide, inX6, .inl (mem_u 333 (by decide +kernel) (by decide +kernel)), .inl rfl⟩
theorem fl_X11_116_9 : LkF RX11 116 9 2 := ⟨RX9, TX9, 3, RX0, rfl, by decide, inX9, .inl (mem_u 333 (by decide +kernel) (by decide +kernel)), .inl rfl⟩
theorem fl_X12_112_12 : LkF RX12 112 12 0 := ⟨RX12, TX12, 37, RX12, rfl, by decide, inX12, .inl (mem_u 733 (by decide +kernel) (by decide +kernel)), .inl rfl⟩
theorem pl_X12_112_12 : LkP RX12 112 12 0 .int false := ⟨RX12, TX12, 37, tyX12, rfl, by decide, inX12, .inl (mem_u 733 (by decide +kernel) (by decide +kernel)), tyX12_ok, nmX12, rfl, rfl, fun h => absurd h (by decide)⟩
theorem fl_X12_103_12 : LkF RX12 103 12 1 := ⟨RX12, TX12, 37, RX12, rfl, by decide, inX12, .inl (mem_u 734 (by decide +kernel) (by decide +kernel)), .inl rfl⟩
theorem pl_X12_103_12 : LkP RX12 103 12 1 .int false := ⟨RX12, TX12, 37, tyX12, rfl, by decide, inX12, .inl (mem_u 734 (by decide +kernel) (by decide +kernel)), tyX12_ok, nmX12, rfl, rfl, fun h => absurd h (by decide)⟩
theorem fl_X12_7_12 : LkF RX12 7 12 2 := ⟨RX12, TX12, 37, RX12, rfl, by decide, inX12, .inl (mem_u 735 (by decide +kernel) (by decide +kernel)), .inl rfl⟩
theorem pl_X12_7_12 : LkP RX12 7 12 2 (.array .int) true := ⟨RX12, TX12, 37, tyX12, rfl, by decide, inX12, .inl (mem_u 735 (by decide +kernel) (by decide +kernel)), tyX12_ok, nmX12, rfl, rfl, fun _ => rfl⟩
theorem fl_X12_13_12 : LkF RX12 13 12 3 := ⟨RX12, TX12, 37, RX12, rfl, by decide, inX12, .inl (mem_u 736 (by decide +kernel) (by decide +kernel)), .inl rfl⟩
theorem pl_X12_13_12 : LkP RX12 13 12 3 (.array .int) true := ⟨RX12, TX12, 37, tyX12, rfl, by decide, inX12, .inl (mem_u 736 (by decide +kernel) (by decide +kernel)), tyX12_ok, nmX12, rfl, rfl, fun _ => rfl⟩
theorem fl_X12_16_12 : LkF RX12 16 12 4 := ⟨RX12, TX12, 37, RX12, rfl, by decide, inX12, .inl (mem_u 737 (by decide +kernel) (by decide +kernel)), .inl rfl⟩
theorem pl_X12_16_12 : LkP RX12 16 12 4 (.array .int) true := ⟨RX12, TX12, 37, tyX12, rfl, by decide, inX12, .inl (mem_u 737 (by decide +kernel) (by decide +kernel)), tyX12_ok, nmX12, rfl, rfl, fun _ => rfl⟩
theorem fl_X12_19_12 : LkF RX12 19 12 5 := ⟨RX12, TX12, 37, RX12, rfl, by decide, inX12, .inl (mem_u 738 (by decide +kernel) (by decide +kernel)), .inl rfl⟩
theorem pl_X12_19_12 : LkP RX12 19 12 5 (.array .int) true := ⟨RX12, TX12, 37, tyX12, rfl, by decide, inX12, .inl (mem_u 738 (by decide +kernel) (by decide +kernel)), tyX12_ok, nmX12, rfl, rfl, fun _ => rfl⟩
theorem fl_X12_115_12 : LkF RX12 115 12 6 := ⟨RX12, TX12, 37, RX12, rfl, by decide, inX12, .inl (mem_u 739 (by decide +kernel) (by decide +kernel)), .inl rfl⟩
theorem pl_X12_115_12 : LkP RX12 115 12 6 .int false := ⟨RX12, TX12, 37, tyX12, rfl, by decide, inX12, .inl (mem_u 739 (by decide +kernel) (by decide +kernel)), tyX12_ok, nmX12, rfl, rfl, fun h => absurd h (by decide)⟩
theorem fl_X12_22_12 : LkF RX12 22 12 7 := ⟨RX12, TX12, 37, RX12, rfl, by decide, inX12, .inl (mem_u 740 (by decide +kernel) (by decide +kernel)), .inl rfl⟩
theorem pl_X12_22_12 : LkP RX12 22 12 7 (.array .int) true := ⟨RX12, TX12, 37, tyX12, rfl, by decide, inX12, .inl (mem_u 740 (by decide +kernel) (by decide +kernel)), tyX12_ok, nmX12, rfl, rfl, fun _ => rfl⟩
theorem fl_X12_25_12 : LkF RX12 25 12 8 := ⟨RX12, TX12, 37, RX12, rfl, by decide, inX12, .inl (mem_u 741 (by decide +kernel) (by decide +kernel)), .inl rfl⟩
theorem pl_X12_25_12 : LkP RX12 25 12 8 (.array .int) true := ⟨RX12, TX12, 37, tyX12, rfl, by decide, inX12, .inl (mem_u 741 (by decide +kernel) (by decide +kernel)), tyX12_ok, nmX12, rfl, rfl, fun _ => rfl⟩
theorem fl_X12_28_12 : LkF RX12 28 12 9 := ⟨RX12, TX12, 37, RX12, rfl, by decide, inX12, .inl (mem_u 742 (by decide +kernel) (by decide +kernel)), .inl rfl⟩
theorem pl_X12_28_12 : LkP RX12 28 12 9 (.array .int) true := ⟨RX12, TX12, 37, tyX12, rfl, by decide, inX12, .inl (mem_u 742 (by decide +kernel) (by decide +kernel)), tyX12_ok, nmX12, rfl, rfl, fun _ => rfl⟩
theorem fl_X12_31_12 : LkF RX12 31 12 10 := ⟨RX12, TX12, 37, RX12, rfl, by decide, inX12, .inl (mem_u 743 (by decide +kernel) (by decide +kernel)), .inl rfl⟩
theorem pl_X12_31_12 : LkP RX12 31 12 10 (.array .int) true := ⟨RX12, TX12, 37, tyX12, rfl, by decide, inX12, .inl (mem_u 743 (by decide +kernel) (by decide +kernel)), tyX12_ok, nmX12, rfl, rfl, fun _ => rfl⟩
theorem fl_X12_118_12 : LkF RX12 118 12 11 := ⟨RX12, TX12, 37, RX12, rfl, by decide, inX12, .inl (mem_u 744 (by decide +kernel) (by decide +kernel)), .inl rfl⟩
theorem pl_X12_118_12 : LkP RX12 118 12 11 .int false := ⟨RX12, TX12, 37, tyX12, rfl, by decide, inX12, .inl (mem_u 744 (by decide +kernel) (by decide +kernel)), tyX12_ok, nmX12, rfl, rfl, fun h => absurd h (by decide)⟩
theorem fl_X12_189_12 : LkF RX12 189 12 12 := ⟨RX12, TX12, 37, RX12, rfl, by decide, inX12, .inl (mem_u 745 (by decide +kernel) (by decide +kernel)), .inl rfl⟩
theorem pl_X12_189_12 : LkP RX12 189 12 12 .int false := ⟨RX12, TX12, 37, tyX12, rfl, by decide, inX12, .inl (mem_u 745 (by decide +kernel) (by decide +kernel)), tyX12_ok, nmX12, rfl, rfl, fun h => absurd h (by decide)⟩
theorem fl_X12_81_12 : LkF RX12 81 12 13 := ⟨RX12, TX12, 37, RX12, rfl, by decide, inX12, .inl (mem_u 746 (by decide +kernel) (by decide +kernel)), .inl rfl⟩
theorem pl_X12_81_12 : LkP RX12 81 12 13 .int false := ⟨RX12, TX12, 37, tyX12, rfl, by decide, inX12, .inl (mem_u 746 (by decide +kernel) (by decide +kernel)), tyX12_ok, nmX12, rfl, rfl, fun h => absurd h (by decide)⟩
theorem fl_X12_34_12 : LkF RX12 34 12 14 := ⟨RX12, TX12, 37, RX12, rfl, by decide, inX12, .inl (mem_u 747 (by decide +kernel) (by decide +kernel)), .inl rfl⟩
theorem pl_X12_34_12 : LkP RX12 34 12 14 (.array .byte) true := ⟨RX12, TX12, 37, tyX12, rfl, by decide, inX12, .inl (mem_u 747 (by decide +kernel) (by decide +kernel)), tyX12_ok, nmX12, rfl, rfl, fun _ => rfl⟩
theorem fl_X12_93_12 : LkF RX12 93 12 15 := ⟨RX12, TX12, 37, RX12, rfl, by decide, inX12, .inl (mem_u 748 (by decide +kernel) (by decide +kernel)), .inl rfl⟩
theorem pl_X12_93_12 : LkP RX12 93 12 15 .int false := ⟨RX12, TX12, 37, tyX12, rfl, by decide, inX12, .inl (mem_u 748 (by decide +kernel) (by decide +kernel)), tyX12_ok, nmX12, rfl, rfl, fun h => absurd h (by decide)⟩
theorem fl_X12_96_12 : LkF RX12 96 12 16 := ⟨RX12, TX12, 37, RX12, rfl, by decide, inX12, .inl (mem_u 749 (by decide +kernel) (by decide +kernel)), .inl rfl⟩
theorem pl_X12_96_12 : LkP RX12 96 12 16 .boolean false := ⟨RX12, TX12, 37, tyX12, rfl, by decide, inX12, .inl (mem_u 749 (by decide +kernel) (by decide +kernel)), tyX12_ok, nmX12, rfl, rfl, fun h => absurd h (by decide)⟩
theorem fl_X12_100_12 : LkF RX12 100 12 17 := ⟨RX12, TX12, 37, RX12, rfl, by decide, inX12, .inl (mem_u 750 (by decide +kernel) (by decide +kernel)), .inl rfl⟩
theorem pl_X12_100_12 : LkP RX12 100 12 17 .int false := ⟨RX12, TX12, 37, tyX12, rfl, by decide, inX12, .inl (mem_u 750 (by decide +kernel) (by decide +kernel)), tyX12_ok, nmX12, rfl, rfl, fun h => absurd h (by decide)⟩
theorem fl_X12_38_12 : LkF RX12 38 12 18 := ⟨RX12, TX12, 37, RX12, rfl, by decide, inX12, .inl (mem_u 751 (by decide +kernel) (by decide +kernel)), .inl rfl⟩
theorem pl_X12_38_12 : LkP RX12 38 12 18 (.array .int) true := ⟨RX12, TX12, 37, tyX12, rfl, by decide, inX12, .inl (mem_u 751 (by decide +kernel) (by decide +kernel)), tyX12_ok, nmX12, rfl, rfl, fun _ => rfl⟩
theorem fl_X12_41_12 : LkF RX12 41 12 19 := ⟨RX12, TX12, 37, RX12, rfl, by decide, inX12, .inl (mem_u 752 (by decide +kernel) (by decide +kernel)), .inl rfl⟩
theorem pl_X12_41_12 : LkP RX12 41 12 19 (.array .int) true := ⟨RX12, TX12, 37, tyX12, rfl, by decide, inX12, .inl (mem_u 752 (by decide +kernel) (by decide +kernel)), tyX12_ok, nmX12, rfl, rfl, fun _ => rfl⟩
theorem fl_X12_44_12 : LkF RX12 44 12 20 := ⟨RX12, TX12, 37, RX12, rfl, by decide, inX12, .inl (mem_u 753 (by decide +kernel) (by decide +kernel)), .inl rfl⟩
theorem pl_X12_44_12 : LkP RX12 44 12 20 (.array .int) true := ⟨RX12, TX12, 37, tyX12, rfl, by decide, inX12, .inl (mem_u 753 (by decide +kernel) (by decide +kernel)), tyX12_ok, nmX12, rfl, rfl, fun _ => rfl⟩
theorem fl_X12_47_12 : LkF RX12 47 12 21 := ⟨RX12, TX12, 37, RX12, rfl, by decide, inX12, .inl (mem_u 754 (by decide +kernel) (by decide +kernel)), .inl rfl⟩
theorem pl_X12_47_12 : LkP RX12 47 12 21 (.array .int) true := ⟨RX12, TX12, 37, tyX12, rfl, by decide, inX12, .inl (mem_u 754 (by decide +kernel) (by decide +kernel)), tyX12_ok, nmX12, rfl, rfl, fun _ => rfl⟩
theorem fl_X12_50_12 : LkF RX12 50 12 22 := ⟨RX12, TX12, 37, RX12, rfl, by decide, inX12, .inl (mem_u 755 (by decide +kernel) (by decide +kernel)), .inl rfl⟩
theorem pl_X12_50_12 : LkP RX12 50 12 22 (.array .int) true := ⟨RX12, TX12, 37, tyX12, rfl, by decide, inX12, .inl (mem_u 755 (by decide +kernel) (by decide +kernel)), tyX12_ok, nmX12, rfl, rfl, fun _ => rfl⟩
theorem fl_X12_53_12 : LkF RX12 53 12 23 := ⟨RX12, TX12, 37, RX12, rfl, by decide, inX12, .inl (mem_u 756 (by decide +kernel) (by decide +kernel)), .inl rfl⟩
theorem pl_X12_53_12 : LkP RX12 53 12 23 (.array .int) true := ⟨RX12, TX12, 37, tyX12, rfl, by decide, inX12, .inl (mem_u 756 (by decide +kernel) (by decide +kernel)), tyX12_ok, nmX12, rfl, rfl, fun _ => rfl⟩
theorem fl_X12_56_12 : LkF RX12 56 12 24 := ⟨RX12, TX12, 37, RX12, rfl, by decide, inX12, .inl (mem_u 757 (by decide +kernel) (by decide +kernel)), .inl rfl⟩
theorem pl_X12_56_12 : LkP RX12 56 12 24 (.array .int) true := ⟨RX12, TX12, 37, tyX12, rfl, by decide, inX12, .inl (mem_u 757 (by decide +kernel) (by decide +kernel)), tyX12_ok, nmX12, rfl, rfl, fun _ => rfl⟩
theorem fl_X12_59_12 : LkF RX12 59 12 25 := ⟨RX12, TX12, 37, RX12, rfl, by decide, inX12, .inl (mem_u 758 (by decide +kernel) (by decide +kernel)), .inl rfl⟩
theorem pl_X12_59_12 : LkP RX12 59 12 25 (.array .int) true := ⟨RX12, TX12, 37, tyX12, rfl, by decide, inX12, .inl (mem_u 758 (by decide +kernel) (by decide +kernel)), tyX12_ok, nmX12, rfl, rfl, fun _ => rfl⟩
theorem fl_X12_197_12 : LkF RX12 197 12 26 := ⟨RX12, TX12, 37, RX12, rfl, by decide, inX12, .inl (mem_u 759 (by decide +kernel) (by decide +kernel)), .inl rfl⟩
theorem pl_X12_197_12 : LkP RX12 197 12 26 .long false := ⟨RX12, TX12, 37, tyX12, rfl, by decide, inX12, .inl (mem_u 759 (by decide +kernel) (by decide +kernel)), tyX12_ok, nmX12, rfl, rfl, fun h => absurd h (by decide)⟩
theorem fl_X12_62_12 : LkF RX12 62 12 27 := ⟨RX12, TX12, 37, RX12, rfl, by decide, inX12, .inl (mem_u 760 (by decide +kernel) (by decide +kernel)), .inl rfl⟩
theorem pl_X12_62_12 : LkP RX12 62 12 27 (.array .int) true := ⟨RX12, TX12, 37, tyX12, rfl, by decide, inX12, .inl (mem_u 760 (by decide +kernel) (by decide +kernel)), tyX12_ok, nmX12, rfl, rfl, fun _ => rfl⟩
theorem fl_X12_216_12 : LkF RX12 216 12 28 := ⟨RX12, TX12, 37, RX12, rfl, by decide, inX12, .inl (mem_u 761 (by decide +kernel) (by decide +kernel)), .inl rfl⟩
theorem pl_X12_216_12 : LkP RX12 216 12 28 .boolean false := ⟨RX12, TX12, 37, tyX12, rfl, by decide, inX12, .inl (mem_u 761 (by decide +kernel) (by decide +kernel)), tyX12_ok, nmX12, rfl, rfl, fun h => absurd h (by decide)⟩
theorem fl_X12_219_12 : LkF RX12 219 12 29 := ⟨RX12, TX12, 37, RX12, rfl, by decide, inX12, .inl (mem_u 762 (by decide +kernel) (by decide +kernel)), .inl rfl⟩
theorem pl_X12_219_12 : LkP RX12 219 12 29 .int false := ⟨RX12, TX12, 37, tyX12, rfl, by decide, inX12, .inl (mem_u 762 (by decide +kernel) (by decide +kernel)), tyX12_ok, nmX12, rfl, rfl, fun h => absurd h (by decide)⟩
theorem fl_X12_222_12 : LkF RX12 222 12 30 := ⟨RX12, TX12, 37, RX12, rfl, by decide, inX12, .inl (mem_u 763 (by decide +kernel) (by decide +kernel)), .inl rfl⟩
theorem pl_X12_222_12 : LkP RX12 222 12 30 .int false := ⟨RX12, TX12, 37, tyX12, rfl, by decide, inX12, .inl (mem_u 763 (by decide +kernel) (by decide +kernel)), tyX12_ok, nmX12, rfl, rfl, fun h => absurd h (by decide)⟩
theorem fl_X12_225_12 : LkF RX12 225 12 31 := ⟨RX12, TX12, 37, RX12, rfl, by decide, inX12, .inl (mem_u 764 (by decide +kernel) (by decide +kernel)), .inl rfl⟩
theorem pl_X12_225_12 : LkP RX12 225 12 31 .int false := ⟨RX12, TX12, 37, tyX12, rfl, by decide, inX12, .inl (mem_u 764 (by decide +kernel) (by decide +kernel)), tyX12_ok, nmX12, rfl, rfl, fun h => absurd h (by decide)⟩
theorem fl_X12_65_12 : LkF RX12 65 12 32 := ⟨RX12, TX12, 37, RX12, rfl, by decide, inX12, .inl (mem_u 765 (by decide +kernel) (by decide +kernel)), .inl rfl⟩
theorem pl_X12_65_12 : LkP RX12 65 12 32 (.array .int) true := ⟨RX12, TX12, 37, tyX12, rfl, by decide, inX12, .inl (mem_u 765 (by decide +kernel) (by decide +kernel)), tyX12_ok, nmX12, rfl, rfl, fun _ => rfl⟩
theorem fl_X12_68_12 : LkF RX12 68 12 33 := ⟨RX12, TX12, 37, RX12, rfl, by decide, inX12, .inl (mem_u 766 (by decide +kernel) (by decide +kernel)), .inl rfl⟩
theorem pl_X12_68_12 : LkP RX12 68 12 33 (.array .int) true := ⟨RX12, TX12, 37, tyX12, rfl, by decide, inX12, .inl (mem_u 766 (by decide +kernel) (by decide +kernel)), tyX12_ok, nmX12, rfl, rfl, fun _ => rfl⟩
theorem fl_X12_71_12 : LkF RX12 71 12 34 := ⟨RX12, TX12, 37, RX12, rfl, by decide, inX12, .inl (mem_u 767 (by decide +kernel) (by decide +kernel)), .inl rfl⟩
theorem pl_X12_71_12 : LkP RX12 71 12 34 (.array .int) true := ⟨RX12, TX12, 37, tyX12, rfl, by decide, inX12, .inl (mem_u 767 (by decide +kernel) (by decide +kernel)), tyX12_ok, nmX12, rfl, rfl, fun _ => rfl⟩
theorem fl_X12_74_12 : LkF RX12 74 12 35 := ⟨RX12, TX12, 37, RX12, rfl, by decide, inX12, .inl (mem_u 768 (by decide +kernel) (by decide +kernel)), .inl rfl⟩
theorem pl_X12_74_12 : LkP RX12 74 12 35 (.array .int) true := ⟨RX12, TX12, 37, tyX12, rfl, by decide, inX12, .inl (mem_u 768 (by decide +kernel) (by decide +kernel)), tyX12_ok, nmX12, rfl, rfl, fun _ => rfl⟩
theorem fl_X12_239_12 : LkF RX12 239 12 36 := ⟨RX12, TX12, 37, RX12, rfl, by decide, inX12, .inl (mem_u 769 (by decide +kernel) (by decide +kernel)), .inl rfl⟩
theorem pl_X12_239_12 : LkP RX12 239 12 36 .long false := ⟨RX12, TX12, 37, tyX12, rfl, by decide, inX12, .inl (mem_u 769 (by decide +kernel) (by decide +kernel)), tyX12_ok, nmX12, rfl, rfl, fun h => absurd h (by decide)⟩
theorem fl_X11_61_2 : LkF RX11 61 2 1 := ⟨RX2, TX2, 2, RX2, rfl, by decide, inX2, .inr ⟨"LentChanged", mem_u 71 (by decide +kernel) (by decide +kernel)⟩, .inl rfl⟩
theorem pl_X11_61_2 : LkP RX11 61 2 1 .int false := ⟨RX2, TX2, 2, tyX2, rfl, by decide, inX2, .inr ⟨"LentChanged", mem_u 71 (by decide +kernel) (by decide +kernel)⟩, tyX2_ok, nmX2, rfl, rfl, fun h => absurd h (by decide)⟩
theorem fl_X8_60_2 : LkF RX8 60 2 1 := ⟨RX2, TX2, 2, RX2, rfl, by decide, inX2, .inr ⟨"LentChanged", mem_u 72 (by decide +kernel) (by decide +kernel)⟩, .inl rfl⟩
theorem pl_X8_60_2 : LkP RX8 60 2 1 .int false := ⟨RX2, TX2, 2, tyX2, rfl, by decide, inX2, .inr ⟨"LentChanged", mem_u 72 (by decide +kernel) (by decide +kernel)⟩, tyX2_ok, nmX2, rfl, rfl, fun h => absurd h (by decide)⟩
theorem fl_X5_26_8 : LkF RX5 26 8 4 := ⟨RX8, TX8, 5, RX8, rfl, by decide, inX8, .inr ⟨"LentChanged", mem_u 92 (by decide +kernel) (by decide +kernel)⟩, .inl rfl⟩
theorem pl_X5_26_8 : LkP RX5 26 8 4 .int false := ⟨RX8, TX8, 5, tyX8, rfl, by decide, inX8, .inr ⟨"LentChanged", mem_u 92 (by decide +kernel) (by decide +kernel)⟩, tyX8_ok, nmX8, rfl, rfl, fun h => absurd h (by decide)⟩
theorem fl_X11_73_8 : LkF RX11 73 8 4 := ⟨RX8, TX8, 5, RX8, rfl, by decide, inX8, .inr ⟨"LentChanged", mem_u 93 (by decide +kernel) (by decide +kernel)⟩, .inl rfl⟩
theorem pl_X11_73_8 : LkP RX11 73 8 4 .int false := ⟨RX8, TX8, 5, tyX8, rfl, by decide, inX8, .inr ⟨"LentChanged", mem_u 93 (by decide +kernel) (by decide +kernel)⟩, tyX8_ok, nmX8, rfl, rfl, fun h => absurd h (by decide)⟩
theorem fl_X3_47_8 : LkF RX3 47 8 4 := ⟨RX8, TX8, 5, RX8, rfl, by decide, inX8, .inr ⟨"LentChanged", mem_u 94 (by decide +kernel) (by decide +kernel)⟩, .inl rfl⟩
theorem pl_X3_47_8 : LkP RX3 47 8 4 .int false := ⟨RX8, TX8, 5, tyX8, rfl, by decide, inX8, .inr ⟨"LentChanged", mem_u 94 (by decide +kernel) (by decide +kernel)⟩, tyX8_ok, nmX8, rfl, rfl, fun h => absurd h (by decide)⟩
theorem fl_X10_61_8 : LkF RX10 61 8 4 := ⟨RX8, TX8, 5, RX8, rfl, by decide, inX8, .inr ⟨"LentChanged", mem_u 95 (by decide +kernel) (by decide +kernel)⟩, .inl rfl⟩
theorem pl_X10_61_8 : LkP RX10 61 8 4 .int false := ⟨RX8, TX8, 5, tyX8, rfl, by decide, inX8, .inr ⟨"LentChanged", mem_u 95 (by decide +kernel) (by decide +kernel)⟩, tyX8_ok, nmX8, rfl, rfl, fun h => absurd h (by decide)⟩
theorem fl_X7_74_8 : LkF RX7 74 8 4 := ⟨RX8, TX8, 5, RX8, rfl, by decide, inX8, .inr ⟨"LentChanged", mem_u 96 (by decide +kernel) (by decide +kernel)⟩, .inl rfl⟩
theorem pl_X7_74_8 : LkP RX7 74 8 4 .int false := ⟨RX8, TX8, 5, tyX8, rfl, by decide, inX8, .inr ⟨"LentChanged", mem_u 96 (by decide +kernel) (by decide +kernel)⟩, tyX8_ok, nmX8, rfl, rfl, fun h => absurd h (by decide)⟩
theorem fl_X11_133_7 : LkF RX11 133 7 4 := ⟨RX7, TX7, 8, RX7, rfl, by decide, inX7, .inr ⟨"LentChanged", mem_u 119 (by decide +kernel) (by decide +kernel)⟩, .inl rfl⟩
theorem pl_X11_133_7 : LkP RX11 133 7 4 .int false := ⟨RX7, TX7, 8, tyX7, rfl, by decide, inX7, .inr ⟨"LentChanged", mem_u 119 (by decide +kernel) (by decide +kernel)⟩, tyX7_ok, nmX7, rfl, rfl, fun h => absurd h (by decide)⟩
theorem fl_X11_227_7 : LkF RX11 227 7 5 := ⟨RX7, TX7, 8, RX7, rfl, by decide, inX7, .inr ⟨"LentChanged", mem_u 121 (by decide +kernel) (by decide +kernel)⟩, .inl rfl⟩
theorem pl_X11_227_7 : LkP RX11 227 7 5 .int false := ⟨RX7, TX7, 8, tyX7, rfl, by decide, inX7, .inr ⟨"LentChanged", mem_u 121 (by decide +kernel) (by decide +kernel)⟩, tyX7_ok, nmX7, rfl, rfl, fun h => absurd h (by decide)⟩
theorem fl_X11_220_7 : LkF RX11 220 7 7 := ⟨RX7, TX7, 8, RX7, rfl, by decide, inX7, .inr ⟨"LentChanged", mem_u 124 (by decide +kernel) (by decide +kernel)⟩, .inl rfl⟩
theorem pl_X11_220_7 : LkP RX11 220 7 7 .int false := ⟨RX7, TX7, 8, tyX7, rfl, by decide, inX7, .inr ⟨"LentChanged", mem_u 124 (by decide +kernel) (by decide +kernel)⟩, tyX7_ok, nmX7, rfl, rfl, fun h => absurd h (by decide)⟩
theorem fl_X11_179_10 : LkF RX11 179 10 8 := ⟨RX10, TX10, 9, RX10, rfl, by decide, inX10, .inr ⟨"LentChanged", mem_u 157 (by decide +kernel) (by decide +kernel)⟩, .inl rfl⟩
theorem pl_X11_179_10 : LkP RX11 179 10 8 .int false := ⟨RX10, TX10, 9, tyX10, rfl, by decide, inX10, .inr ⟨"LentChanged", mem_u 157 (by decide +kernel) (by decide +kernel)⟩, tyX10_ok, nmX10, rfl, rfl, fun h => absurd h (by decide)⟩
theorem mm_code : Cond.code Lib.Math.min.name Lib.Math.min.code 2 (some .int) ∈ lw_u := mem_u 309 (by decide +kernel) (by decide +kernel)
theorem mm_stat : Cond.static Lib.Math.min.name ∈ lw_u := mem_u 308 (by decide +kernel) (by decide +kernel)
theorem mm_init : Cond.initialized "java/lang/Math" ∈ lw_u := mem_u 48 (by decide +kernel) (by decide +kernel)
theorem mk_J6_bitCount_0f7a4 : MkY yJ6_bitCount_0f7a4 cJ6_bitCount_0f7a4 1 (some .int) 1 := ⟨mem_u 589 (by decide +kernel) (by decide +kernel), mem_u 54 (by decide +kernel) (by decide +kernel), ⟨by decide +kernel, by decide +kernel⟩, by decide +kernel, by decide +kernel⟩
theorem mk_X0_changed : MkY yX0_changed cX0_changed 2 (some .int) 1 := ⟨mem_u 407 (by decide +kernel) (by decide +kernel), mem_u 49 (by decide +kernel) (by decide +kernel), ⟨by decide +kernel, by decide +kernel⟩, by decide +kernel, by decide +kernel⟩
theorem mk_X0_init : MkY yX0_init cX0_init 4 (none) 3 := ⟨mem_u 321 (by decide +kernel) (by decide +kernel), mem_u 49 (by decide +kernel) (by decide +kernel), ⟨by decide +kernel, by decide +kernel⟩, by decide +kernel, by decide +kernel⟩
theorem mk_X0_kind : MkY yX0_kind cX0_kind 1 (some .int) 0 := ⟨mem_u 441 (by decide +kernel) (by decide +kernel), mem_u 49 (by decide +kernel) (by decide +kernel), ⟨by decide +kernel, by decide +kernel⟩, by decide +kernel, by decide +kernel⟩
theorem mk_X0_stateAfter : MkY yX0_stateAfter cX0_stateAfter 3 (some .int) 1 := ⟨mem_u 391 (by decide +kernel) (by decide +kernel), mem_u 49 (by decide +kernel) (by decide +kernel), ⟨by decide +kernel, by decide +kernel⟩, by decide +kernel, by decide +kernel⟩
theorem mk_X10_addAllOf : MkY yX10_addAllOf cX10_addAllOf 7 (none) 1 := ⟨mem_u 554 (by decide +kernel) (by decide +kernel), mem_u 44 (by decide +kernel) (by decide +kernel), ⟨by decide +kernel, by decide +kernel⟩, by decide +kernel, by decide +kernel⟩
theorem mk_X10_addLoan : MkY yX10_addLoan cX10_addLoan 7 (none) 3 := ⟨mem_u 564 (by decide +kernel) (by decide +kernel), mem_u 44 (by decide +kernel) (by decide +kernel), ⟨by decide +kernel, by decide +kernel⟩, by decide +kernel, by decide +kernel⟩
theorem mk_X10_begin : MkY yX10_begin cX10_begin 2 (none) 1 := ⟨mem_u 546 (by decide +kernel) (by decide +kernel), mem_u 44 (by decide +kernel) (by decide +kernel), ⟨by decide +kernel, by decide +kernel⟩, by decide +kernel, by decide +kernel⟩
theorem mk_X10_costOf : MkY yX10_costOf cX10_costOf 2 (some .int) 1 := ⟨mem_u 569 (by decide +kernel) (by decide +kernel), mem_u 44 (by decide +kernel) (by decide +kernel), ⟨by decide +kernel, by decide +kernel⟩, by decide +kernel, by decide +kernel⟩
theorem mk_X10_firstTo : MkY yX10_firstTo cX10_firstTo 2 (some .int) 1 := ⟨mem_u 573 (by decide +kernel) (by decide +kernel), mem_u 44 (by decide +kernel) (by decide +kernel), ⟨by decide +kernel, by decide +kernel⟩, by decide +kernel, by decide +kernel⟩
theorem mk_X10_forget : MkY yX10_forget cX10_forget 1 (none) 0 := ⟨mem_u 416 (by decide +kernel) (by decide +kernel), mem_u 44 (by decide +kernel) (by decide +kernel), ⟨by decide +kernel, by decide +kernel⟩, by decide +kernel, by decide +kernel⟩
theorem mk_X10_init : MkY yX10_init cX10_init 3 (none) 2 := ⟨mem_u 146 (by decide +kernel) (by decide +kernel), mem_u 44 (by decide +kernel) (by decide +kernel), ⟨by decide +kernel, by decide +kernel⟩, by decide +kernel, by decide +kernel⟩
theorem mk_X10_searchFrom : MkY yX10_searchFrom cX10_searchFrom 5 (none) 1 := ⟨mem_u 542 (by decide +kernel) (by decide +kernel), mem_u 44 (by decide +kernel) (by decide +kernel), ⟨by decide +kernel, by decide +kernel⟩, by decide +kernel, by decide +kernel⟩
theorem mk_X11_about : MkY yX11_about cX11_about 4 (some .int) 2 := ⟨mem_u 420 (by decide +kernel) (by decide +kernel), mem_u 40 (by decide +kernel) (by decide +kernel), ⟨by decide +kernel, by decide +kernel⟩, by decide +kernel, by decide +kernel⟩
theorem mk_X11_as : MkY yX11_as cX11_as 4 (some .int) 2 := ⟨mem_u 455 (by decide +kernel) (by decide +kernel), mem_u 40 (by decide +kernel) (by decide +kernel), ⟨by decide +kernel, by decide +kernel⟩, by decide +kernel, by decide +kernel⟩
theorem mk_X11_at : MkY yX11_at cX11_at 2 (some .int) 2 := ⟨mem_u 281 (by decide +kernel) (by decide +kernel), mem_u 40 (by decide +kernel) (by decide +kernel), ⟨by decide +kernel, by decide +kernel⟩, by decide +kernel, by decide +kernel⟩
theorem mk_X11_blank : MkY yX11_blank cX11_blank 2 (some .int) 0 := ⟨mem_u 266 (by decide +kernel) (by decide +kernel), mem_u 40 (by decide +kernel) (by decide +kernel), ⟨by decide +kernel, by decide +kernel⟩, by decide +kernel, by decide +kernel⟩
theorem mk_X11_by : MkY yX11_by cX11_by 3 (some .int) 2 := ⟨mem_u 533 (by decide +kernel) (by decide +kernel), mem_u 40 (by decide +kernel) (by decide +kernel), ⟨by decide +kernel, by decide +kernel⟩, by decide +kernel, by decide +kernel⟩
theorem mk_X11_count : MkY yX11_count cX11_count 2 (some .int) 1 := ⟨mem_u 699 (by decide +kernel) (by decide +kernel), mem_u 40 (by decide +kernel) (by decide +kernel), ⟨by decide +kernel, by decide +kernel⟩, by decide +kernel, by decide +kernel⟩
theorem mk_X11_day : MkY yX11_day cX11_day 1 (some .int) 0 := ⟨mem_u 520 (by decide +kernel) (by decide +kernel), mem_u 40 (by decide +kernel) (by decide +kernel), ⟨by decide +kernel, by decide +kernel⟩, by decide +kernel, by decide +kernel⟩
theorem mk_X11_digest : MkY yX11_digest cX11_digest 5 (some (.long)) 0 := ⟨mem_u 711 (by decide +kernel) (by decide +kernel), mem_u 40 (by decide +kernel) (by decide +kernel), ⟨by decide +kernel, by decide +kernel⟩, by decide +kernel, by decide +kernel⟩
theorem mk_X11_fault : MkY yX11_fault cX11_fault 2 (some .int) 1 := ⟨mem_u 270 (by decide +kernel) (by decide +kernel), mem_u 40 (by decide +kernel) (by decide +kernel), ⟨by decide +kernel, by decide +kernel⟩, by decide +kernel, by decide +kernel⟩
theorem mk_X11_fill : MkY yX11_fill cX11_fill 3 (none) 2 := ⟨mem_u 549 (by decide +kernel) (by decide +kernel), mem_u 40 (by decide +kernel) (by decide +kernel), ⟨by decide +kernel, by decide +kernel⟩, by decide +kernel, by decide +kernel⟩
theorem mk_X11_hands : MkY yX11_hands cX11_hands 5 (some .int) 4 := ⟨mem_u 628 (by decide +kernel) (by decide +kernel), mem_u 40 (by decide +kernel) (by decide +kernel), ⟨by decide +kernel, by decide +kernel⟩, by decide +kernel, by decide +kernel⟩
theorem mk_X11_image : MkY yX11_image cX11_image 1 (some .int) 0 := ⟨mem_u 687 (by decide +kernel) (by decide +kernel), mem_u 40 (by decide +kernel) (by decide +kernel), ⟨by decide +kernel, by decide +kernel⟩, by decide +kernel, by decide +kernel⟩
theorem mk_X11_init : MkY yX11_init cX11_init 1 (none) 0 := ⟨mem_u 59 (by decide +kernel) (by decide +kernel), mem_u 40 (by decide +kernel) (by decide +kernel), ⟨by decide +kernel, by decide +kernel⟩, by decide +kernel, by decide +kernel⟩
theorem mk_X11_isOfKind : MkY yX11_isOfKind cX11_isOfKind 2 (some (.boolean)) 2 := ⟨mem_u 458 (by decide +kernel) (by decide +kernel), mem_u 40 (by decide +kernel) (by decide +kernel), ⟨by decide +kernel, by decide +kernel⟩, by decide +kernel, by decide +kernel⟩
theorem mk_X11_isState : MkY yX11_isState cX11_isState 1 (some (.boolean)) 1 := ⟨mem_u 469 (by decide +kernel) (by decide +kernel), mem_u 40 (by decide +kernel) (by decide +kernel), ⟨by decide +kernel, by decide +kernel⟩, by decide +kernel, by decide +kernel⟩
theorem mk_X11_lend : MkY yX11_lend cX11_lend 4 (some .int) 2 := ⟨mem_u 511 (by decide +kernel) (by decide +kernel), mem_u 40 (by decide +kernel) (by decide +kernel), ⟨by decide +kernel, by decide +kernel⟩, by decide +kernel, by decide +kernel⟩
theorem mk_X11_letter : MkY yX11_letter cX11_letter 2 (some .int) 1 := ⟨mem_u 255 (by decide +kernel) (by decide +kernel), mem_u 40 (by decide +kernel) (by decide +kernel), ⟨by decide +kernel, by decide +kernel⟩, by decide +kernel, by decide +kernel⟩
theorem mk_X11_mixedThing : MkY yX11_mixedThing cX11_mixedThing 7 (some (.long)) 2 := ⟨mem_u 718 (by decide +kernel) (by decide +kernel), mem_u 40 (by decide +kernel) (by decide +kernel), ⟨by decide +kernel, by decide +kernel⟩, by decide +kernel, by decide +kernel⟩
theorem mk_X11_put : MkY yX11_put cX11_put 3 (none) 3 := ⟨mem_u 262 (by decide +kernel) (by decide +kernel), mem_u 40 (by decide +kernel) (by decide +kernel), ⟨by decide +kernel, by decide +kernel⟩, by decide +kernel, by decide +kernel⟩
theorem mk_X11_reach : MkY yX11_reach cX11_reach 2 (some .int) 1 := ⟨mem_u 577 (by decide +kernel) (by decide +kernel), mem_u 40 (by decide +kernel) (by decide +kernel), ⟨by decide +kernel, by decide +kernel⟩, by decide +kernel, by decide +kernel⟩
theorem mk_X11_restore : MkY yX11_restore cX11_restore 1 (some .int) 0 := ⟨mem_u 695 (by decide +kernel) (by decide +kernel), mem_u 40 (by decide +kernel) (by decide +kernel), ⟨by decide +kernel, by decide +kernel⟩, by decide +kernel, by decide +kernel⟩
theorem mk_X11_round : MkY yX11_round cX11_round 3 (some .int) 2 := ⟨mem_u 603 (by decide +kernel) (by decide +kernel), mem_u 40 (by decide +kernel) (by decide +kernel), ⟨by decide +kernel, by decide +kernel⟩, by decide +kernel, by decide +kernel⟩
theorem mk_X11_spoilers : MkY yX11_spoilers cX11_spoilers 4 (some .int) 3 := ⟨mem_u 581 (by decide +kernel) (by decide +kernel), mem_u 40 (by decide +kernel) (by decide +kernel), ⟨by decide +kernel, by decide +kernel⟩, by decide +kernel, by decide +kernel⟩
theorem mk_X11_thing : MkY yX11_thing cX11_thing 2 (some .int) 1 := ⟨mem_u 466 (by decide +kernel) (by decide +kernel), mem_u 40 (by decide +kernel) (by decide +kernel), ⟨by decide +kernel, by decide +kernel⟩, by decide +kernel, by decide +kernel⟩
theorem mk_X11_thingOf : MkY yX11_thingOf cX11_thingOf 3 (some .int) 2 := ⟨mem_u 478 (by decide +kernel) (by decide +kernel), mem_u 40 (by decide +kernel) (by decide +kernel), ⟨by decide +kernel, by decide +kernel⟩, by decide +kernel, by decide +kernel⟩
theorem mk_X11_town : MkY yX11_town cX11_town 1 (some .int) 0 := ⟨mem_u 293 (by decide +kernel) (by decide +kernel), mem_u 40 (by decide +kernel) (by decide +kernel), ⟨by decide +kernel, by decide +kernel⟩, by decide +kernel, by decide +kernel⟩
theorem mk_X11_traitOf : MkY yX11_traitOf cX11_traitOf 2 (some .int) 2 := ⟨mem_u 389 (by decide +kernel) (by decide +kernel), mem_u 40 (by decide +kernel) (by decide +kernel), ⟨by decide +kernel, by decide +kernel⟩, by decide +kernel, by decide +kernel⟩
theorem mk_X11_traitSum : MkY yX11_traitSum cX11_traitSum 1 (some .int) 1 := ⟨mem_u 683 (by decide +kernel) (by decide +kernel), mem_u 40 (by decide +kernel) (by decide +kernel), ⟨by decide +kernel, by decide +kernel⟩, by decide +kernel, by decide +kernel⟩
theorem mk_X11_wished : MkY yX11_wished cX11_wished 5 (some .int) 3 := ⟨mem_u 538 (by decide +kernel) (by decide +kernel), mem_u 40 (by decide +kernel) (by decide +kernel), ⟨by decide +kernel, by decide +kernel⟩, by decide +kernel, by decide +kernel⟩
theorem mk_X11_years : MkY yX11_years cX11_years 4 (some .int) 3 := ⟨mem_u 656 (by decide +kernel) (by decide +kernel), mem_u 40 (by decide +kernel) (by decide +kernel), ⟨by decide +kernel, by decide +kernel⟩, by decide +kernel, by decide +kernel⟩
theorem mk_X12_about : MkY yX12_about cX12_about 3 (some .int) 2 := ⟨mem_u 883 (by decide +kernel) (by decide +kernel), mem_u 47 (by decide +kernel) (by decide +kernel), ⟨by decide +kernel, by decide +kernel⟩, by decide +kernel, by decide +kernel⟩
theorem mk_X12_as : MkY yX12_as cX12_as 4 (some .int) 2 := ⟨mem_u 899 (by decide +kernel) (by decide +kernel), mem_u 47 (by decide +kernel) (by decide +kernel), ⟨by decide +kernel, by decide +kernel⟩, by decide +kernel, by decide +kernel⟩
theorem mk_X12_backNow : MkY yX12_backNow cX12_backNow 4 (some .int) 0 := ⟨mem_u 992 (by decide +kernel) (by decide +kernel), mem_u 47 (by decide +kernel) (by decide +kernel), ⟨by decide +kernel, by decide +kernel⟩, by decide +kernel, by decide +kernel⟩
theorem mk_X12_blank : MkY yX12_blank cX12_blank 2 (some .int) 0 := ⟨mem_u 856 (by decide +kernel) (by decide +kernel), mem_u 47 (by decide +kernel) (by decide +kernel), ⟨by decide +kernel, by decide +kernel⟩, by decide +kernel, by decide +kernel⟩
theorem mk_X12_borrowerNow : MkY yX12_borrowerNow cX12_borrowerNow 4 (some .int) 2 := ⟨mem_u 891 (by decide +kernel) (by decide +kernel), mem_u 47 (by decide +kernel) (by decide +kernel), ⟨by decide +kernel, by decide +kernel⟩, by decide +kernel, by decide +kernel⟩
theorem mk_X12_by : MkY yX12_by cX12_by 3 (some .int) 2 := ⟨mem_u 944 (by decide +kernel) (by decide +kernel), mem_u 47 (by decide +kernel) (by decide +kernel), ⟨by decide +kernel, by decide +kernel⟩, by decide +kernel, by decide +kernel⟩
theorem mk_X12_count : MkY yX12_count cX12_count 2 (some .int) 1 := ⟨mem_u 1039 (by decide +kernel) (by decide +kernel), mem_u 47 (by decide +kernel) (by decide +kernel), ⟨by decide +kernel, by decide +kernel⟩, by decide +kernel, by decide +kernel⟩
theorem mk_X12_day : MkY yX12_day cX12_day 3 (some .int) 0 := ⟨mem_u 940 (by decide +kernel) (by decide +kernel), mem_u 47 (by decide +kernel) (by decide +kernel), ⟨by decide +kernel, by decide +kernel⟩, by decide +kernel, by decide +kernel⟩
theorem mk_X12_digest : MkY yX12_digest cX12_digest 3 (some (.long)) 0 := ⟨mem_u 1055 (by decide +kernel) (by decide +kernel), mem_u 47 (by decide +kernel) (by decide +kernel), ⟨by decide +kernel, by decide +kernel⟩, by decide +kernel, by decide +kernel⟩
theorem mk_X12_draw : MkY yX12_draw cX12_draw 2 (some .int) 1 := ⟨mem_u 1020 (by decide +kernel) (by decide +kernel), mem_u 47 (by decide +kernel) (by decide +kernel), ⟨by decide +kernel, by decide +kernel⟩, by decide +kernel, by decide +kernel⟩
theorem mk_X12_endsOf : MkY yX12_endsOf cX12_endsOf 4 (some .int) 1 := ⟨mem_u 996 (by decide +kernel) (by decide +kernel), mem_u 47 (by decide +kernel) (by decide +kernel), ⟨by decide +kernel, by decide +kernel⟩, by decide +kernel, by decide +kernel⟩
theorem mk_X12_fault : MkY yX12_fault cX12_fault 2 (some .int) 1 := ⟨mem_u 860 (by decide +kernel) (by decide +kernel), mem_u 47 (by decide +kernel) (by decide +kernel), ⟨by decide +kernel, by decide +kernel⟩, by decide +kernel, by decide +kernel⟩
theorem mk_X12_goFrom : MkY yX12_goFrom cX12_goFrom 10 (some (.boolean)) 3 := ⟨mem_u 961 (by decide +kernel) (by decide +kernel), mem_u 47 (by decide +kernel) (by decide +kernel), ⟨by decide +kernel, by decide +kernel⟩, by decide +kernel, by decide +kernel⟩
theorem mk_X12_hands : MkY yX12_hands cX12_hands 5 (some .int) 4 := ⟨mem_u 1000 (by decide +kernel) (by decide +kernel), mem_u 47 (by decide +kernel) (by decide +kernel), ⟨by decide +kernel, by decide +kernel⟩, by decide +kernel, by decide +kernel⟩
theorem mk_X12_handsNow : MkY yX12_handsNow cX12_handsNow 8 (some .int) 4 := ⟨mem_u 1004 (by decide +kernel) (by decide +kernel), mem_u 47 (by decide +kernel) (by decide +kernel), ⟨by decide +kernel, by decide +kernel⟩, by decide +kernel, by decide +kernel⟩
theorem mk_X12_homeState : MkY yX12_homeState cX12_homeState 2 (some .int) 1 := ⟨mem_u 922 (by decide +kernel) (by decide +kernel), mem_u 47 (by decide +kernel) (by decide +kernel), ⟨by decide +kernel, by decide +kernel⟩, by decide +kernel, by decide +kernel⟩
theorem mk_X12_howMany : MkY yX12_howMany cX12_howMany 2 (some .int) 1 := ⟨mem_u 1043 (by decide +kernel) (by decide +kernel), mem_u 47 (by decide +kernel) (by decide +kernel), ⟨by decide +kernel, by decide +kernel⟩, by decide +kernel, by decide +kernel⟩
theorem mk_X12_image : MkY yX12_image cX12_image 2 (some .int) 0 := ⟨mem_u 1031 (by decide +kernel) (by decide +kernel), mem_u 47 (by decide +kernel) (by decide +kernel), ⟨by decide +kernel, by decide +kernel⟩, by decide +kernel, by decide +kernel⟩
theorem mk_X12_init : MkY yX12_init cX12_init 1 (none) 0 := ⟨mem_u 731 (by decide +kernel) (by decide +kernel), mem_u 47 (by decide +kernel) (by decide +kernel), ⟨by decide +kernel, by decide +kernel⟩, by decide +kernel, by decide +kernel⟩
theorem mk_X12_isBorrower : MkY yX12_isBorrower cX12_isBorrower 2 (some (.boolean)) 1 := ⟨mem_u 887 (by decide +kernel) (by decide +kernel), mem_u 47 (by decide +kernel) (by decide +kernel), ⟨by decide +kernel, by decide +kernel⟩, by decide +kernel, by decide +kernel⟩
theorem mk_X12_isGood : MkY yX12_isGood cX12_isGood 4 (some (.boolean)) 1 := ⟨mem_u 868 (by decide +kernel) (by decide +kernel), mem_u 47 (by decide +kernel) (by decide +kernel), ⟨by decide +kernel, by decide +kernel⟩, by decide +kernel, by decide +kernel⟩
theorem mk_X12_isSafe : MkY yX12_isSafe cX12_isSafe 7 (some (.boolean)) 4 := ⟨mem_u 984 (by decide +kernel) (by decide +kernel), mem_u 47 (by decide +kernel) (by decide +kernel), ⟨by decide +kernel, by decide +kernel⟩, by decide +kernel, by decide +kernel⟩
theorem mk_X12_isState : MkY yX12_isState cX12_isState 1 (some (.boolean)) 1 := ⟨mem_u 906 (by decide +kernel) (by decide +kernel), mem_u 47 (by decide +kernel) (by decide +kernel), ⟨by decide +kernel, by decide +kernel⟩, by decide +kernel, by decide +kernel⟩
theorem mk_X12_isThing : MkY yX12_isThing cX12_isThing 2 (some (.boolean)) 1 := ⟨mem_u 914 (by decide +kernel) (by decide +kernel), mem_u 47 (by decide +kernel) (by decide +kernel), ⟨by decide +kernel, by decide +kernel⟩, by decide +kernel, by decide +kernel⟩
theorem mk_X12_kindBy : MkY yX12_kindBy cX12_kindBy 1 (some .int) 1 := ⟨mem_u 871 (by decide +kernel) (by decide +kernel), mem_u 47 (by decide +kernel) (by decide +kernel), ⟨by decide +kernel, by decide +kernel⟩, by decide +kernel, by decide +kernel⟩
theorem mk_X12_layWaves : MkY yX12_layWaves cX12_layWaves 7 (none) 3 := ⟨mem_u 956 (by decide +kernel) (by decide +kernel), mem_u 47 (by decide +kernel) (by decide +kernel), ⟨by decide +kernel, by decide +kernel⟩, by decide +kernel, by decide +kernel⟩
theorem mk_X12_lend : MkY yX12_lend cX12_lend 3 (some .int) 2 := ⟨mem_u 936 (by decide +kernel) (by decide +kernel), mem_u 47 (by decide +kernel) (by decide +kernel), ⟨by decide +kernel, by decide +kernel⟩, by decide +kernel, by decide +kernel⟩
theorem mk_X12_lentMany : MkY yX12_lentMany cX12_lentMany 3 (some .int) 0 := ⟨mem_u 1047 (by decide +kernel) (by decide +kernel), mem_u 47 (by decide +kernel) (by decide +kernel), ⟨by decide +kernel, by decide +kernel⟩, by decide +kernel, by decide +kernel⟩
theorem mk_X12_letter : MkY yX12_letter cX12_letter 2 (some .int) 1 := ⟨mem_u 849 (by decide +kernel) (by decide +kernel), mem_u 47 (by decide +kernel) (by decide +kernel), ⟨by decide +kernel, by decide +kernel⟩, by decide +kernel, by decide +kernel⟩
theorem mk_X12_made : MkY yX12_made cX12_made 6 (some .int) 2 := ⟨mem_u 926 (by decide +kernel) (by decide +kernel), mem_u 47 (by decide +kernel) (by decide +kernel), ⟨by decide +kernel, by decide +kernel⟩, by decide +kernel, by decide +kernel⟩
theorem mk_X12_mix : MkY yX12_mix cX12_mix 3 (none) 1 := ⟨mem_u 1060 (by decide +kernel) (by decide +kernel), mem_u 47 (by decide +kernel) (by decide +kernel), ⟨by decide +kernel, by decide +kernel⟩, by decide +kernel, by decide +kernel⟩
theorem mk_X12_mixThing : MkY yX12_mixThing cX12_mixThing 3 (none) 1 := ⟨mem_u 1065 (by decide +kernel) (by decide +kernel), mem_u 47 (by decide +kernel) (by decide +kernel), ⟨by decide +kernel, by decide +kernel⟩, by decide +kernel, by decide +kernel⟩
theorem mk_X12_reach : MkY yX12_reach cX12_reach 2 (some .int) 1 := ⟨mem_u 965 (by decide +kernel) (by decide +kernel), mem_u 47 (by decide +kernel) (by decide +kernel), ⟨by decide +kernel, by decide +kernel⟩, by decide +kernel, by decide +kernel⟩
theorem mk_X12_reachNow : MkY yX12_reachNow cX12_reachNow 4 (some .int) 1 := ⟨mem_u 969 (by decide +kernel) (by decide +kernel), mem_u 47 (by decide +kernel) (by decide +kernel), ⟨by decide +kernel, by decide +kernel⟩, by decide +kernel, by decide +kernel⟩
theorem mk_X12_readRound : MkY yX12_readRound cX12_readRound 2 (none) 0 := ⟨mem_u 875 (by decide +kernel) (by decide +kernel), mem_u 47 (by decide +kernel) (by decide +kernel), ⟨by decide +kernel, by decide +kernel⟩, by decide +kernel, by decide +kernel⟩
theorem mk_X12_readTown : MkY yX12_readTown cX12_readTown 3 (none) 0 := ⟨mem_u 864 (by decide +kernel) (by decide +kernel), mem_u 47 (by decide +kernel) (by decide +kernel), ⟨by decide +kernel, by decide +kernel⟩, by decide +kernel, by decide +kernel⟩
theorem mk_X12_restore : MkY yX12_restore cX12_restore 2 (some .int) 0 := ⟨mem_u 1035 (by decide +kernel) (by decide +kernel), mem_u 47 (by decide +kernel) (by decide +kernel), ⟨by decide +kernel, by decide +kernel⟩, by decide +kernel, by decide +kernel⟩
theorem mk_X12_round : MkY yX12_round cX12_round 3 (some .int) 2 := ⟨mem_u 988 (by decide +kernel) (by decide +kernel), mem_u 47 (by decide +kernel) (by decide +kernel), ⟨by decide +kernel, by decide +kernel⟩, by decide +kernel, by decide +kernel⟩
theorem mk_X12_rowsWithout : MkY yX12_rowsWithout cX12_rowsWithout 8 (some .int) 4 := ⟨mem_u 1008 (by decide +kernel) (by decide +kernel), mem_u 47 (by decide +kernel) (by decide +kernel), ⟨by decide +kernel, by decide +kernel⟩, by decide +kernel, by decide +kernel⟩
theorem mk_X12_size : MkY yX12_size cX12_size 3 (some .int) 1 := ⟨mem_u 980 (by decide +kernel) (by decide +kernel), mem_u 47 (by decide +kernel) (by decide +kernel), ⟨by decide +kernel, by decide +kernel⟩, by decide +kernel, by decide +kernel⟩
theorem mk_X12_spoilers : MkY yX12_spoilers cX12_spoilers 4 (some .int) 3 := ⟨mem_u 973 (by decide +kernel) (by decide +kernel), mem_u 47 (by decide +kernel) (by decide +kernel), ⟨by decide +kernel, by decide +kernel⟩, by decide +kernel, by decide +kernel⟩
theorem mk_X12_spoilersNow : MkY yX12_spoilersNow cX12_spoilersNow 7 (some .int) 3 := ⟨mem_u 977 (by decide +kernel) (by decide +kernel), mem_u 47 (by decide +kernel) (by decide +kernel), ⟨by decide +kernel, by decide +kernel⟩, by decide +kernel, by decide +kernel⟩
theorem mk_X12_thing : MkY yX12_thing cX12_thing 2 (some .int) 1 := ⟨mem_u 903 (by decide +kernel) (by decide +kernel), mem_u 47 (by decide +kernel) (by decide +kernel), ⟨by decide +kernel, by decide +kernel⟩, by decide +kernel, by decide +kernel⟩
theorem mk_X12_thingNow : MkY yX12_thingNow cX12_thingNow 3 (some .int) 2 := ⟨mem_u 918 (by decide +kernel) (by decide +kernel), mem_u 47 (by decide +kernel) (by decide +kernel), ⟨by decide +kernel, by decide +kernel⟩, by decide +kernel, by decide +kernel⟩
theorem mk_X12_thingOf : MkY yX12_thingOf cX12_thingOf 3 (some .int) 2 := ⟨mem_u 910 (by decide +kernel) (by decide +kernel), mem_u 47 (by decide +kernel) (by decide +kernel), ⟨by decide +kernel, by decide +kernel⟩, by decide +kernel, by decide +kernel⟩
theorem mk_X12_town : MkY yX12_town cX12_town 2 (some .int) 0 := ⟨mem_u 879 (by decide +kernel) (by decide +kernel), mem_u 47 (by decide +kernel) (by decide +kernel), ⟨by decide +kernel, by decide +kernel⟩, by decide +kernel, by decide +kernel⟩
theorem mk_X12_traitIn : MkY yX12_traitIn cX12_traitIn 2 (some .int) 2 := ⟨mem_u 929 (by decide +kernel) (by decide +kernel), mem_u 47 (by decide +kernel) (by decide +kernel), ⟨by decide +kernel, by decide +kernel⟩, by decide +kernel, by decide +kernel⟩
theorem mk_X12_traitsAll : MkY yX12_traitsAll cX12_traitsAll 3 (some .int) 0 := ⟨mem_u 1051 (by decide +kernel) (by decide +kernel), mem_u 47 (by decide +kernel) (by decide +kernel), ⟨by decide +kernel, by decide +kernel⟩, by decide +kernel, by decide +kernel⟩
theorem mk_X12_traitsIn : MkY yX12_traitsIn cX12_traitsIn 1 (some .int) 1 := ⟨mem_u 1027 (by decide +kernel) (by decide +kernel), mem_u 47 (by decide +kernel) (by decide +kernel), ⟨by decide +kernel, by decide +kernel⟩, by decide +kernel, by decide +kernel⟩
theorem mk_X12_whoseThing : MkY yX12_whoseThing cX12_whoseThing 4 (some .int) 1 := ⟨mem_u 895 (by decide +kernel) (by decide +kernel), mem_u 47 (by decide +kernel) (by decide +kernel), ⟨by decide +kernel, by decide +kernel⟩, by decide +kernel, by decide +kernel⟩
theorem mk_X12_wished : MkY yX12_wished cX12_wished 4 (some .int) 3 := ⟨mem_u 948 (by decide +kernel) (by decide +kernel), mem_u 47 (by decide +kernel) (by decide +kernel), ⟨by decide +kernel, by decide +kernel⟩, by decide +kernel, by decide +kernel⟩
theorem mk_X12_wishedNow : MkY yX12_wishedNow cX12_wishedNow 4 (some .int) 3 := ⟨mem_u 952 (by decide +kernel) (by decide +kernel), mem_u 47 (by decide +kernel) (by decide +kernel), ⟨by decide +kernel, by decide +kernel⟩, by decide +kernel, by decide +kernel⟩
theorem mk_X12_with : MkY yX12_with cX12_with 3 (some .int) 3 := ⟨mem_u 932 (by decide +kernel) (by decide +kernel), mem_u 47 (by decide +kernel) (by decide +kernel), ⟨by decide +kernel, by decide +kernel⟩, by decide +kernel, by decide +kernel⟩
theorem mk_X12_within : MkY yX12_within cX12_within 3 (some (.boolean)) 3 := ⟨mem_u 852 (by decide +kernel) (by decide +kernel), mem_u 47 (by decide +kernel) (by decide +kernel), ⟨by decide +kernel, by decide +kernel⟩, by decide +kernel, by decide +kernel⟩
theorem mk_X12_years : MkY yX12_years cX12_years 4 (some .int) 3 := ⟨mem_u 1012 (by decide +kernel) (by decide +kernel), mem_u 47 (by decide +kernel) (by decide +kernel), ⟨by decide +kernel, by decide +kernel⟩, by decide +kernel, by decide +kernel⟩
theorem mk_X12_yearsNow : MkY yX12_yearsNow cX12_yearsNow 7 (some .int) 3 := ⟨mem_u 1016 (by decide +kernel) (by decide +kernel), mem_u 47 (by decide +kernel) (by decide +kernel), ⟨by decide +kernel, by decide +kernel⟩, by decide +kernel, by decide +kernel⟩
theorem mk_X1_changed : MkY yX1_changed cX1_changed 2 (some .int) 1 := ⟨mem_u 399 (by decide +kernel) (by decide +kernel), mem_u 53 (by decide +kernel) (by decide +kernel), ⟨by decide +kernel, by decide +kernel⟩, by decide +kernel, by decide +kernel⟩
theorem mk_X1_init : MkY yX1_init cX1_init 4 (none) 3 := ⟨mem_u 365 (by decide +kernel) (by decide +kernel), mem_u 53 (by decide +kernel) (by decide +kernel), ⟨by decide +kernel, by decide +kernel⟩, by decide +kernel, by decide +kernel⟩
theorem mk_X1_kind : MkY yX1_kind cX1_kind 1 (some .int) 0 := ⟨mem_u 431 (by decide +kernel) (by decide +kernel), mem_u 53 (by decide +kernel) (by decide +kernel), ⟨by decide +kernel, by decide +kernel⟩, by decide +kernel, by decide +kernel⟩
theorem mk_X2_add : MkY yX2_add cX2_add 2 (none) 1 := ⟨mem_u 259 (by decide +kernel) (by decide +kernel), mem_u 41 (by decide +kernel) (by decide +kernel), ⟨by decide +kernel, by decide +kernel⟩, by decide +kernel, by decide +kernel⟩
theorem mk_X2_borrowerFrom : MkY yX2_borrowerFrom cX2_borrowerFrom 6 (some (.object "LentChanged$Adder")) 1 := ⟨mem_u 313 (by decide +kernel) (by decide +kernel), mem_u 41 (by decide +kernel) (by decide +kernel), ⟨by decide +kernel, by decide +kernel⟩, by decide +kernel, by decide +kernel⟩
theorem mk_X2_borrowers : MkY yX2_borrowers cX2_borrowers 1 (some .int) 0 := ⟨mem_u 306 (by decide +kernel) (by decide +kernel), mem_u 41 (by decide +kernel) (by decide +kernel), ⟨by decide +kernel, by decide +kernel⟩, by decide +kernel, by decide +kernel⟩
theorem mk_X2_codeAt : MkY yX2_codeAt cX2_codeAt 2 (some .int) 1 := ⟨mem_u 725 (by decide +kernel) (by decide +kernel), mem_u 41 (by decide +kernel) (by decide +kernel), ⟨by decide +kernel, by decide +kernel⟩, by decide +kernel, by decide +kernel⟩
theorem mk_X2_digitAt : MkY yX2_digitAt cX2_digitAt 2 (some .int) 1 := ⟨mem_u 289 (by decide +kernel) (by decide +kernel), mem_u 41 (by decide +kernel) (by decide +kernel), ⟨by decide +kernel, by decide +kernel⟩, by decide +kernel, by decide +kernel⟩
theorem mk_X2_faultOfRound : MkY yX2_faultOfRound cX2_faultOfRound 4 (some .int) 1 := ⟨mem_u 285 (by decide +kernel) (by decide +kernel), mem_u 41 (by decide +kernel) (by decide +kernel), ⟨by decide +kernel, by decide +kernel⟩, by decide +kernel, by decide +kernel⟩
theorem mk_X2_faultOfTown : MkY yX2_faultOfTown cX2_faultOfTown 2 (some .int) 0 := ⟨mem_u 274 (by decide +kernel) (by decide +kernel), mem_u 41 (by decide +kernel) (by decide +kernel), ⟨by decide +kernel, by decide +kernel⟩, by decide +kernel, by decide +kernel⟩
theorem mk_X2_fitsTown : MkY yX2_fitsTown cX2_fitsTown 3 (some (.boolean)) 1 := ⟨mem_u 278 (by decide +kernel) (by decide +kernel), mem_u 41 (by decide +kernel) (by decide +kernel), ⟨by decide +kernel, by decide +kernel⟩, by decide +kernel, by decide +kernel⟩
theorem mk_X2_init : MkY yX2_init cX2_init 1 (none) 0 := ⟨mem_u 67 (by decide +kernel) (by decide +kernel), mem_u 41 (by decide +kernel) (by decide +kernel), ⟨by decide +kernel, by decide +kernel⟩, by decide +kernel, by decide +kernel⟩
theorem mk_X2_isRound : MkY yX2_isRound cX2_isRound 2 (some (.boolean)) 1 := ⟨mem_u 607 (by decide +kernel) (by decide +kernel), mem_u 41 (by decide +kernel) (by decide +kernel), ⟨by decide +kernel, by decide +kernel⟩, by decide +kernel, by decide +kernel⟩
theorem mk_X2_isTown : MkY yX2_isTown cX2_isTown 2 (some (.boolean)) 0 := ⟨mem_u 297 (by decide +kernel) (by decide +kernel), mem_u 41 (by decide +kernel) (by decide +kernel), ⟨by decide +kernel, by decide +kernel⟩, by decide +kernel, by decide +kernel⟩
theorem mk_X3_follow : MkY yX3_follow cX3_follow 5 (none) 2 := ⟨mem_u 632 (by decide +kernel) (by decide +kernel), mem_u 46 (by decide +kernel) (by decide +kernel), ⟨by decide +kernel, by decide +kernel⟩, by decide +kernel, by decide +kernel⟩
theorem mk_X3_howManyTo : MkY yX3_howManyTo cX3_howManyTo 2 (some .int) 1 := ⟨mem_u 648 (by decide +kernel) (by decide +kernel), mem_u 46 (by decide +kernel) (by decide +kernel), ⟨by decide +kernel, by decide +kernel⟩, by decide +kernel, by decide +kernel⟩
theorem mk_X3_inEachTo : MkY yX3_inEachTo cX3_inEachTo 2 (some .int) 1 := ⟨mem_u 652 (by decide +kernel) (by decide +kernel), mem_u 46 (by decide +kernel) (by decide +kernel), ⟨by decide +kernel, by decide +kernel⟩, by decide +kernel, by decide +kernel⟩
theorem mk_X3_init : MkY yX3_init cX3_init 2 (none) 1 := ⟨mem_u 200 (by decide +kernel) (by decide +kernel), mem_u 46 (by decide +kernel) (by decide +kernel), ⟨by decide +kernel, by decide +kernel⟩, by decide +kernel, by decide +kernel⟩
theorem mk_X3_lendToEach : MkY yX3_lendToEach cX3_lendToEach 7 (none) 1 := ⟨mem_u 639 (by decide +kernel) (by decide +kernel), mem_u 46 (by decide +kernel) (by decide +kernel), ⟨by decide +kernel, by decide +kernel⟩, by decide +kernel, by decide +kernel⟩
theorem mk_X3_stepOn : MkY yX3_stepOn cX3_stepOn 2 (none) 0 := ⟨mem_u 644 (by decide +kernel) (by decide +kernel), mem_u 46 (by decide +kernel) (by decide +kernel), ⟨by decide +kernel, by decide +kernel⟩, by decide +kernel, by decide +kernel⟩
theorem mk_X4_changed : MkY yX4_changed cX4_changed 2 (some .int) 1 := ⟨mem_u 402 (by decide +kernel) (by decide +kernel), mem_u 50 (by decide +kernel) (by decide +kernel), ⟨by decide +kernel, by decide +kernel⟩, by decide +kernel, by decide +kernel⟩
theorem mk_X4_init : MkY yX4_init cX4_init 4 (none) 3 := ⟨mem_u 318 (by decide +kernel) (by decide +kernel), mem_u 50 (by decide +kernel) (by decide +kernel), ⟨by decide +kernel, by decide +kernel⟩, by decide +kernel, by decide +kernel⟩
theorem mk_X4_kind : MkY yX4_kind cX4_kind 1 (some .int) 0 := ⟨mem_u 434 (by decide +kernel) (by decide +kernel), mem_u 50 (by decide +kernel) (by decide +kernel), ⟨by decide +kernel, by decide +kernel⟩, by decide +kernel, by decide +kernel⟩
theorem mk_X5_fewest : MkY yX5_fewest cX5_fewest 7 (some .int) 3 := ⟨mem_u 585 (by decide +kernel) (by decide +kernel), mem_u 45 (by decide +kernel) (by decide +kernel), ⟨by decide +kernel, by decide +kernel⟩, by decide +kernel, by decide +kernel⟩
theorem mk_X5_init : MkY yX5_init cX5_init 2 (none) 1 := ⟨mem_u 181 (by decide +kernel) (by decide +kernel), mem_u 45 (by decide +kernel) (by decide +kernel), ⟨by decide +kernel, by decide +kernel⟩, by decide +kernel, by decide +kernel⟩
theorem mk_X5_isSafeWithout : MkY yX5_isSafeWithout cX5_isSafeWithout 11 (some (.boolean)) 4 := ⟨mem_u 596 (by decide +kernel) (by decide +kernel), mem_u 45 (by decide +kernel) (by decide +kernel), ⟨by decide +kernel, by decide +kernel⟩, by decide +kernel, by decide +kernel⟩
theorem mk_X6_init : MkY yX6_init cX6_init 4 (none) 3 := ⟨mem_u 355 (by decide +kernel) (by decide +kernel), mem_u 52 (by decide +kernel) (by decide +kernel), ⟨by decide +kernel, by decide +kernel⟩, by decide +kernel, by decide +kernel⟩
theorem mk_X6_kind : MkY yX6_kind cX6_kind 1 (some .int) 0 := ⟨mem_u 437 (by decide +kernel) (by decide +kernel), mem_u 52 (by decide +kernel) (by decide +kernel), ⟨by decide +kernel, by decide +kernel⟩, by decide +kernel, by decide +kernel⟩
theorem mk_X6_stateAfter : MkY yX6_stateAfter cX6_stateAfter 5 (some .int) 1 := ⟨mem_u 386 (by decide +kernel) (by decide +kernel), mem_u 52 (by decide +kernel) (by decide +kernel), ⟨by decide +kernel, by decide +kernel⟩, by decide +kernel, by decide +kernel⟩
theorem mk_X7_add : MkY yX7_add cX7_add 3 (some .int) 1 := ⟨mem_u 473 (by decide +kernel) (by decide +kernel), mem_u 43 (by decide +kernel) (by decide +kernel), ⟨by decide +kernel, by decide +kernel⟩, by decide +kernel, by decide +kernel⟩
theorem mk_X7_copyFrom : MkY yX7_copyFrom cX7_copyFrom 3 (none) 1 := ⟨mem_u 691 (by decide +kernel) (by decide +kernel), mem_u 43 (by decide +kernel) (by decide +kernel), ⟨by decide +kernel, by decide +kernel⟩, by decide +kernel, by decide +kernel⟩
theorem mk_X7_daysLeftAt : MkY yX7_daysLeftAt cX7_daysLeftAt 3 (some .int) 1 := ⟨mem_u 450 (by decide +kernel) (by decide +kernel), mem_u 43 (by decide +kernel) (by decide +kernel), ⟨by decide +kernel, by decide +kernel⟩, by decide +kernel, by decide +kernel⟩
theorem mk_X7_drawOf : MkY yX7_drawOf cX7_drawOf 2 (some .int) 1 := ⟨mem_u 664 (by decide +kernel) (by decide +kernel), mem_u 43 (by decide +kernel) (by decide +kernel), ⟨by decide +kernel, by decide +kernel⟩, by decide +kernel, by decide +kernel⟩
theorem mk_X7_dreamYears : MkY yX7_dreamYears cX7_dreamYears 7 (none) 3 := ⟨mem_u 660 (by decide +kernel) (by decide +kernel), mem_u 43 (by decide +kernel) (by decide +kernel), ⟨by decide +kernel, by decide +kernel⟩, by decide +kernel, by decide +kernel⟩
theorem mk_X7_empty : MkY yX7_empty cX7_empty 1 (none) 0 := ⟨mem_u 412 (by decide +kernel) (by decide +kernel), mem_u 43 (by decide +kernel) (by decide +kernel), ⟨by decide +kernel, by decide +kernel⟩, by decide +kernel, by decide +kernel⟩
theorem mk_X7_give : MkY yX7_give cX7_give 4 (none) 3 := ⟨mem_u 516 (by decide +kernel) (by decide +kernel), mem_u 43 (by decide +kernel) (by decide +kernel), ⟨by decide +kernel, by decide +kernel⟩, by decide +kernel, by decide +kernel⟩
theorem mk_X7_has : MkY yX7_has cX7_has 2 (some (.boolean)) 1 := ⟨mem_u 482 (by decide +kernel) (by decide +kernel), mem_u 43 (by decide +kernel) (by decide +kernel), ⟨by decide +kernel, by decide +kernel⟩, by decide +kernel, by decide +kernel⟩
theorem mk_X7_holderOf : MkY yX7_holderOf cX7_holderOf 2 (some .int) 1 := ⟨mem_u 491 (by decide +kernel) (by decide +kernel), mem_u 43 (by decide +kernel) (by decide +kernel), ⟨by decide +kernel, by decide +kernel⟩, by decide +kernel, by decide +kernel⟩
theorem mk_X7_howManyLent : MkY yX7_howManyLent cX7_howManyLent 3 (some .int) 0 := ⟨mem_u 703 (by decide +kernel) (by decide +kernel), mem_u 43 (by decide +kernel) (by decide +kernel), ⟨by decide +kernel, by decide +kernel⟩, by decide +kernel, by decide +kernel⟩
theorem mk_X7_init : MkY yX7_init cX7_init 1 (none) 0 := ⟨mem_u 112 (by decide +kernel) (by decide +kernel), mem_u 43 (by decide +kernel) (by decide +kernel), ⟨by decide +kernel, by decide +kernel⟩, by decide +kernel, by decide +kernel⟩
theorem mk_X7_isLent : MkY yX7_isLent cX7_isLent 2 (some (.boolean)) 1 := ⟨mem_u 503 (by decide +kernel) (by decide +kernel), mem_u 43 (by decide +kernel) (by decide +kernel), ⟨by decide +kernel, by decide +kernel⟩, by decide +kernel, by decide +kernel⟩
theorem mk_X7_numberHeldBy : MkY yX7_numberHeldBy cX7_numberHeldBy 3 (some .int) 1 := ⟨mem_u 445 (by decide +kernel) (by decide +kernel), mem_u 43 (by decide +kernel) (by decide +kernel), ⟨by decide +kernel, by decide +kernel⟩, by decide +kernel, by decide +kernel⟩
theorem mk_X7_passDay : MkY yX7_passDay cX7_passDay 4 (some .int) 1 := ⟨mem_u 524 (by decide +kernel) (by decide +kernel), mem_u 43 (by decide +kernel) (by decide +kernel), ⟨by decide +kernel, by decide +kernel⟩, by decide +kernel, by decide +kernel⟩
theorem mk_X7_returnsOf : MkY yX7_returnsOf cX7_returnsOf 2 (some .int) 1 := ⟨mem_u 495 (by decide +kernel) (by decide +kernel), mem_u 43 (by decide +kernel) (by decide +kernel), ⟨by decide +kernel, by decide +kernel⟩, by decide +kernel, by decide +kernel⟩
theorem mk_X7_stateAtHome : MkY yX7_stateAtHome cX7_stateAtHome 4 (some .int) 2 := ⟨mem_u 499 (by decide +kernel) (by decide +kernel), mem_u 43 (by decide +kernel) (by decide +kernel), ⟨by decide +kernel, by decide +kernel⟩, by decide +kernel, by decide +kernel⟩
theorem mk_X7_stateOf : MkY yX7_stateOf cX7_stateOf 2 (some .int) 1 := ⟨mem_u 486 (by decide +kernel) (by decide +kernel), mem_u 43 (by decide +kernel) (by decide +kernel), ⟨by decide +kernel, by decide +kernel⟩, by decide +kernel, by decide +kernel⟩
theorem mk_X7_stateOfFirstThen : MkY yX7_stateOfFirstThen cX7_stateOfFirstThen 1 (some .int) 0 := ⟨mem_u 672 (by decide +kernel) (by decide +kernel), mem_u 43 (by decide +kernel) (by decide +kernel), ⟨by decide +kernel, by decide +kernel⟩, by decide +kernel, by decide +kernel⟩
theorem mk_X7_takeBack : MkY yX7_takeBack cX7_takeBack 3 (none) 2 := ⟨mem_u 528 (by decide +kernel) (by decide +kernel), mem_u 43 (by decide +kernel) (by decide +kernel), ⟨by decide +kernel, by decide +kernel⟩, by decide +kernel, by decide +kernel⟩
theorem mk_X7_traitsOf : MkY yX7_traitsOf cX7_traitsOf 4 (some .int) 1 := ⟨mem_u 680 (by decide +kernel) (by decide +kernel), mem_u 43 (by decide +kernel) (by decide +kernel), ⟨by decide +kernel, by decide +kernel⟩, by decide +kernel, by decide +kernel⟩
theorem mk_X7_traitsTogether : MkY yX7_traitsTogether cX7_traitsTogether 1 (some .int) 0 := ⟨mem_u 707 (by decide +kernel) (by decide +kernel), mem_u 43 (by decide +kernel) (by decide +kernel), ⟨by decide +kernel, by decide +kernel⟩, by decide +kernel, by decide +kernel⟩
theorem mk_X7_traitsTogetherThen : MkY yX7_traitsTogetherThen cX7_traitsTogetherThen 1 (some .int) 0 := ⟨mem_u 676 (by decide +kernel) (by decide +kernel), mem_u 43 (by decide +kernel) (by decide +kernel), ⟨by decide +kernel, by decide +kernel⟩, by decide +kernel, by decide +kernel⟩
theorem mk_X8_after : MkY yX8_after cX8_after 4 (some .int) 2 := ⟨mem_u 507 (by decide +kernel) (by decide +kernel), mem_u 42 (by decide +kernel) (by decide +kernel), ⟨by decide +kernel, by decide +kernel⟩, by decide +kernel, by decide +kernel⟩
theorem mk_X8_areAllBackAfterOneMore : MkY yX8_areAllBackAfterOneMore cX8_areAllBackAfterOneMore 4 (some (.boolean)) 0 := ⟨mem_u 622 (by decide +kernel) (by decide +kernel), mem_u 42 (by decide +kernel) (by decide +kernel), ⟨by decide +kernel, by decide +kernel⟩, by decide +kernel, by decide +kernel⟩
theorem mk_X8_borrowerAt : MkY yX8_borrowerAt cX8_borrowerAt 2 (some (.object "LentChanged$Adder")) 1 := ⟨mem_u 424 (by decide +kernel) (by decide +kernel), mem_u 42 (by decide +kernel) (by decide +kernel), ⟨by decide +kernel, by decide +kernel⟩, by decide +kernel, by decide +kernel⟩
theorem mk_X8_daysOf : MkY yX8_daysOf cX8_daysOf 3 (some .int) 1 := ⟨mem_u 558 (by decide +kernel) (by decide +kernel), mem_u 42 (by decide +kernel) (by decide +kernel), ⟨by decide +kernel, by decide +kernel⟩, by decide +kernel, by decide +kernel⟩
theorem mk_X8_endOf : MkY yX8_endOf cX8_endOf 5 (some .int) 2 := ⟨mem_u 616 (by decide +kernel) (by decide +kernel), mem_u 42 (by decide +kernel) (by decide +kernel), ⟨by decide +kernel, by decide +kernel⟩, by decide +kernel, by decide +kernel⟩
theorem mk_X8_init : MkY yX8_init cX8_init 1 (none) 0 := ⟨mem_u 83 (by decide +kernel) (by decide +kernel), mem_u 42 (by decide +kernel) (by decide +kernel), ⟨by decide +kernel, by decide +kernel⟩, by decide +kernel, by decide +kernel⟩
theorem mk_X8_read : MkY yX8_read cX8_read 5 (none) 1 := ⟨mem_u 302 (by decide +kernel) (by decide +kernel), mem_u 42 (by decide +kernel) (by decide +kernel), ⟨by decide +kernel, by decide +kernel⟩, by decide +kernel, by decide +kernel⟩
theorem mk_X8_timesUntilBack : MkY yX8_timesUntilBack cX8_timesUntilBack 3 (some .int) 1 := ⟨mem_u 612 (by decide +kernel) (by decide +kernel), mem_u 42 (by decide +kernel) (by decide +kernel), ⟨by decide +kernel, by decide +kernel⟩, by decide +kernel, by decide +kernel⟩
theorem mk_X9_changed : MkY yX9_changed cX9_changed 2 (some .int) 1 := ⟨mem_u 406 (by decide +kernel) (by decide +kernel), mem_u 51 (by decide +kernel) (by decide +kernel), ⟨by decide +kernel, by decide +kernel⟩, by decide +kernel, by decide +kernel⟩
theorem mk_X9_init : MkY yX9_init cX9_init 4 (none) 3 := ⟨mem_u 345 (by decide +kernel) (by decide +kernel), mem_u 51 (by decide +kernel) (by decide +kernel), ⟨by decide +kernel, by decide +kernel⟩, by decide +kernel, by decide +kernel⟩
theorem mk_X9_kind : MkY yX9_kind cX9_kind 1 (some .int) 0 := ⟨mem_u 440 (by decide +kernel) (by decide +kernel), mem_u 51 (by decide +kernel) (by decide +kernel), ⟨by decide +kernel, by decide +kernel⟩, by decide +kernel, by decide +kernel⟩
theorem li_L_9 : LkI R_law 9 yX11_init := ⟨.inl (mem_u 57 (by decide +kernel) (by decide +kernel)), mem_u 58 (by decide +kernel) (by decide +kernel), rfl⟩
theorem lo_X11_1 : Cond.methodLink RX11 1 objectInit ∈ lw_u := mem_u 60 (by decide +kernel) (by decide +kernel)
theorem lo_X2_3 : Cond.methodLink RX2 3 objectInit ∈ lw_u := mem_u 68 (by decide +kernel) (by decide +kernel)
theorem lo_X8_3 : Cond.methodLink RX8 3 objectInit ∈ lw_u := mem_u 84 (by decide +kernel) (by decide +kernel)
theorem lo_X7_3 : Cond.methodLink RX7 3 objectInit ∈ lw_u := mem_u 113 (by decide +kernel) (by decide +kernel)
theorem li_X11_35 : LkI RX11 35 yX10_init := ⟨.inl (mem_u 144 (by decide +kernel) (by decide +kernel)), mem_u 145 (by decide +kernel) (by decide +kernel), rfl⟩
theorem lo_X10_3 : Cond.methodLink RX10 3 objectInit ∈ lw_u := mem_u 147 (by decide +kernel) (by decide +kernel)
theorem li_X11_47 : LkI RX11 47 yX5_init := ⟨.inl (mem_u 179 (by decide +kernel) (by decide +kernel)), mem_u 180 (by decide +kernel) (by decide +kernel), rfl⟩
theorem lo_X5_3 : Cond.methodLink RX5 3 objectInit ∈ lw_u := mem_u 182 (by decide +kernel) (by decide +kernel)
theorem li_X11_56 : LkI RX11 56 yX3_init := ⟨.inl (mem_u 198 (by decide +kernel) (by decide +kernel)), mem_u 199 (by decide +kernel) (by decide +kernel), rfl⟩
theorem lo_X3_3 : Cond.methodLink RX3 3 objectInit ∈ lw_u := mem_u 201 (by decide +kernel) (by decide +kernel)
theorem lv_L_13 : LkV R_law 13 yX11_letter 11 := ⟨mem_u 252 (by decide +kernel) (by decide +kernel), mem_u 253 (by decide +kernel) (by decide +kernel), mem_u 254 (by decide +kernel) (by decide +kernel), _, _, rfl⟩
theorem lv_X11_65 : LkV RX11 65 yX2_add 2 := ⟨mem_u 256 (by decide +kernel) (by decide +kernel), mem_u 257 (by decide +kernel) (by decide +kernel), mem_u 258 (by decide +kernel) (by decide +kernel), _, _, rfl⟩
theorem lv_L_18 : LkV R_law 18 yX11_blank 11 := ⟨mem_u 263 (by decide +kernel) (by decide +kernel), mem_u 264 (by decide +kernel) (by decide +kernel), mem_u 265 (by decide +kernel) (by decide +kernel), _, _, rfl⟩
theorem lv_L_23 : LkV R_law 23 yX11_fault 11 := ⟨mem_u 267 (by decide +kernel) (by decide +kernel), mem_u 268 (by decide +kernel) (by decide +kernel), mem_u 269 (by decide +kernel) (by decide +kernel), _, _, rfl⟩
theorem lv_X11_69 : LkV RX11 69 yX2_faultOfTown 2 := ⟨mem_u 271 (by decide +kernel) (by decide +kernel), mem_u 272 (by decide +kernel) (by decide +kernel), mem_u 273 (by decide +kernel) (by decide +kernel), _, _, rfl⟩
theorem lv_X2_27 : LkV RX2 27 yX2_fitsTown 2 := ⟨mem_u 275 (by decide +kernel) (by decide +kernel), mem_u 277 (by decide +kernel) (by decide +kernel), mem_u 0 (by decide +kernel) (by decide +kernel), _, _, rfl⟩
theorem lv_X11_76 : LkV RX11 76 yX2_faultOfRound 2 := ⟨mem_u 282 (by decide +kernel) (by decide +kernel), mem_u 283 (by decide +kernel) (by decide +kernel), mem_u 284 (by decide +kernel) (by decide +kernel), _, _, rfl⟩
theorem lv_X2_31 : LkV RX2 31 yX2_digitAt 2 := ⟨mem_u 286 (by decide +kernel) (by decide +kernel), mem_u 287 (by decide +kernel) (by decide +kernel), mem_u 288 (by decide +kernel) (by decide +kernel), _, _, rfl⟩
theorem lv_L_27 : LkV R_law 27 yX11_town 11 := ⟨mem_u 290 (by decide +kernel) (by decide +kernel), mem_u 291 (by decide +kernel) (by decide +kernel), mem_u 292 (by decide +kernel) (by decide +kernel), _, _, rfl⟩
theorem lv_X11_80 : LkV RX11 80 yX2_isTown 2 := ⟨mem_u 294 (by decide +kernel) (by decide +kernel), mem_u 295 (by decide +kernel) (by decide +kernel), mem_u 296 (by decide +kernel) (by decide +kernel), _, _, rfl⟩
theorem lv_X2_35 : LkV RX2 35 yX2_faultOfTown 2 := ⟨mem_u 298 (by decide +kernel) (by decide +kernel), mem_u 272 (by decide +kernel) (by decide +kernel), mem_u 273 (by decide +kernel) (by decide +kernel), _, _, rfl⟩
theorem lv_X11_84 : LkV RX11 84 yX8_read 8 := ⟨mem_u 299 (by decide +kernel) (by decide +kernel), mem_u 300 (by decide +kernel) (by decide +kernel), mem_u 301 (by decide +kernel) (by decide +kernel), _, _, rfl⟩
theorem lv_X8_27 : LkV RX8 27 yX2_borrowers 2 := ⟨mem_u 303 (by decide +kernel) (by decide +kernel), mem_u 304 (by decide +kernel) (by decide +kernel), mem_u 305 (by decide +kernel) (by decide +kernel), _, _, rfl⟩
theorem mm_X8_32 : Cond.methodLink RX8 32 Lib.Math.min.name ∈ lw_u := mem_u 307 (by decide +kernel) (by decide +kernel)
theorem lv_X8_42 : LkV RX8 42 yX2_borrowerFrom 2 := ⟨mem_u 310 (by decide +kernel) (by decide +kernel), mem_u 311 (by decide +kernel) (by decide +kernel), mem_u 312 (by decide +kernel) (by decide +kernel), _, _, rfl⟩
theorem li_X2_44 : LkI RX2 44 yX4_init := ⟨.inl (mem_u 316 (by decide +kernel) (by decide +kernel)), mem_u 317 (by decide +kernel) (by decide +kernel), rfl⟩
theorem li_X4_3 : LkI RX4 3 yX0_init := ⟨.inl (mem_u 319 (by decide +kernel) (by decide +kernel)), mem_u 320 (by decide +kernel) (by decide +kernel), rfl⟩
theorem lo_X0_3 : Cond.methodLink RX0 3 objectInit ∈ lw_u := mem_u 322 (by decide +kernel) (by decide +kernel)
theorem li_X2_49 : LkI RX2 49 yX9_init := ⟨.inl (mem_u 343 (by decide +kernel) (by decide +kernel)), mem_u 344 (by decide +kernel) (by decide +kernel), rfl⟩
theorem li_X9_3 : LkI RX9 3 yX0_init := ⟨.inl (mem_u 346 (by decide +kernel) (by decide +kernel)), mem_u 320 (by decide +kernel) (by decide +kernel), rfl⟩
theorem li_X2_52 : LkI RX2 52 yX6_init := ⟨.inl (mem_u 353 (by decide +kernel) (by decide +kernel)), mem_u 354 (by decide +kernel) (by decide +kernel), rfl⟩
theorem li_X6_3 : LkI RX6 3 yX0_init := ⟨.inl (mem_u 356 (by decide +kernel) (by decide +kernel)), mem_u 320 (by decide +kernel) (by decide +kernel), rfl⟩
theorem li_X2_55 : LkI RX2 55 yX1_init := ⟨.inl (mem_u 363 (by decide +kernel) (by decide +kernel)), mem_u 364 (by decide +kernel) (by decide +kernel), rfl⟩
theorem li_X1_3 : LkI RX1 3 yX4_init := ⟨.inl (mem_u 366 (by decide +kernel) (by decide +kernel)), mem_u 317 (by decide +kernel) (by decide +kernel), rfl⟩
theorem li_X2_58 : LkI RX2 58 yX0_init := ⟨.inl (mem_u 373 (by decide +kernel) (by decide +kernel)), mem_u 320 (by decide +kernel) (by decide +kernel), rfl⟩
theorem lv_X8_46 : LkV RX8 46 yX0_stateAfter 0 := ⟨mem_u 378 (by decide +kernel) (by decide +kernel), mem_u 379 (by decide +kernel) (by decide +kernel), mem_u 380 (by decide +kernel) (by decide +kernel), _, _, rfl⟩
theorem lu_X8_46_0 : LkU RX8 46 yX0_stateAfter yX0_stateAfter 0 := ⟨RX0, TX0, 3, RX0, cX0_stateAfter, 3, some .int, rfl, mem_u 378 (by decide +kernel) (by decide +kernel), mem_u 381 (by decide +kernel) (by decide +kernel), mem_u 379 (by decide +kernel) (by decide +kernel), mem_u 391 (by decide +kernel) (by decide +kernel), mem_u 380 (by decide +kernel) (by decide +kernel), mem_u 379 (by decide +kernel) (by decide +kernel), ⟨by decide +kernel, by decide +kernel⟩, rfl⟩
theorem lu_X8_46_1 : LkU RX8 46 yX0_stateAfter yX0_stateAfter 1 := ⟨RX1, TX1, 3, RX0, cX0_stateAfter, 3, some .int, rfl, mem_u 378 (by decide +kernel) (by decide +kernel), mem_u 381 (by decide +kernel) (by decide +kernel), mem_u 379 (by decide +kernel) (by decide +kernel), mem_u 391 (by decide +kernel) (by decide +kernel), mem_u 382 (by decide +kernel) (by decide +kernel), mem_u 379 (by decide +kernel) (by decide +kernel), ⟨by decide +kernel, by decide +kernel⟩, rfl⟩
theorem lu_X8_46_4 : LkU RX8 46 yX0_stateAfter yX0_stateAfter 4 := ⟨RX4, TX4, 3, RX0, cX0_stateAfter, 3, some .int, rfl, mem_u 378 (by decide +kernel) (by decide +kernel), mem_u 381 (by decide +kernel) (by decide +kernel), mem_u 379 (by decide +kernel) (by decide +kernel), mem_u 391 (by decide +kernel) (by decide +kernel), mem_u 383 (by decide +kernel) (by decide +kernel), mem_u 379 (by decide +kernel) (by decide +kernel), ⟨by decide +kernel, by decide +kernel⟩, rfl⟩
theorem lu_X8_46_6 : LkU RX8 46 yX0_stateAfter yX6_stateAfter 6 := ⟨RX6, TX6, 3, RX0, cX0_stateAfter, 3, some .int, rfl, mem_u 378 (by decide +kernel) (by decide +kernel), mem_u 381 (by decide +kernel) (by decide +kernel), mem_u 379 (by decide +kernel) (by decide +kernel), mem_u 391 (by decide +kernel) (by decide +kernel), mem_u 384 (by decide +kernel) (by decide +kernel), mem_u 385 (by decide +kernel) (by decide +kernel), ⟨by decide +kernel, by decide +kernel⟩, rfl⟩
theorem lu_X8_46_9 : LkU RX8 46 yX0_stateAfter yX0_stateAfter 9 := ⟨RX9, TX9, 3, RX0, cX0_stateAfter, 3, some .int, rfl, mem_u 378 (by decide +kernel) (by decide +kernel), mem_u 381 (by decide +kernel) (by decide +kernel), mem_u 379 (by decide +kernel) (by decide +kernel), mem_u 391 (by decide +kernel) (by decide +kernel), mem_u 390 (by decide +kernel) (by decide +kernel), mem_u 379 (by decide +kernel) (by decide +kernel), ⟨by decide +kernel, by decide +kernel⟩, rfl⟩
theorem lv_X0_25 : LkV RX0 25 yX0_changed 0 := ⟨mem_u 393 (by decide +kernel) (by decide +kernel), mem_u 394 (by decide +kernel) (by decide +kernel), mem_u 395 (by decide +kernel) (by decide +kernel), _, _, rfl⟩
theorem lu_X0_25_0 : LkU RX0 25 yX0_changed yX0_changed 0 := ⟨RX0, TX0, 3, RX0, cX0_changed, 2, some .int, rfl, mem_u 393 (by decide +kernel) (by decide +kernel), mem_u 396 (by decide +kernel) (by decide +kernel), mem_u 394 (by decide +kernel) (by decide +kernel), mem_u 407 (by decide +kernel) (by decide +kernel), mem_u 395 (by decide +kernel) (by decide +kernel), mem_u 394 (by decide +kernel) (by decide +kernel), ⟨by decide +kernel, by decide +kernel⟩, rfl⟩
theorem lu_X0_25_1 : LkU RX0 25 yX0_changed yX1_changed 1 := ⟨RX1, TX1, 3, RX0, cX0_changed, 2, some .int, rfl, mem_u 393 (by decide +kernel) (by decide +kernel), mem_u 396 (by decide +kernel) (by decide +kernel), mem_u 394 (by decide +kernel) (by decide +kernel), mem_u 407 (by decide +kernel) (by decide +kernel), mem_u 397 (by decide +kernel) (by decide +kernel), mem_u 398 (by decide +kernel) (by decide +kernel), ⟨by decide +kernel, by decide +kernel⟩, rfl⟩
theorem lu_X0_25_4 : LkU RX0 25 yX0_changed yX4_changed 4 := ⟨RX4, TX4, 3, RX0, cX0_changed, 2, some .int, rfl, mem_u 393 (by decide +kernel) (by decide +kernel), mem_u 396 (by decide +kernel) (by decide +kernel), mem_u 394 (by decide +kernel) (by decide +kernel), mem_u 407 (by decide +kernel) (by decide +kernel), mem_u 400 (by decide +kernel) (by decide +kernel), mem_u 401 (by decide +kernel) (by decide +kernel), ⟨by decide +kernel, by decide +kernel⟩, rfl⟩
theorem lu_X0_25_6 : LkU RX0 25 yX0_changed yX0_changed 6 := ⟨RX6, TX6, 3, RX0, cX0_changed, 2, some .int, rfl, mem_u 393 (by decide +kernel) (by decide +kernel), mem_u 396 (by decide +kernel) (by decide +kernel), mem_u 394 (by decide +kernel) (by decide +kernel), mem_u 407 (by decide +kernel) (by decide +kernel), mem_u 403 (by decide +kernel) (by decide +kernel), mem_u 394 (by decide +kernel) (by decide +kernel), ⟨by decide +kernel, by decide +kernel⟩, rfl⟩
theorem lu_X0_25_9 : LkU RX0 25 yX0_changed yX9_changed 9 := ⟨RX9, TX9, 3, RX0, cX0_changed, 2, some .int, rfl, mem_u 393 (by decide +kernel) (by decide +kernel), mem_u 396 (by decide +kernel) (by decide +kernel), mem_u 394 (by decide +kernel) (by decide +kernel), mem_u 407 (by decide +kernel) (by decide +kernel), mem_u 404 (by decide +kernel) (by decide +kernel), mem_u 405 (by decide +kernel) (by decide +kernel), ⟨by decide +kernel, by decide +kernel⟩, rfl⟩
theorem lv_X11_88 : LkV RX11 88 yX7_empty 7 := ⟨mem_u 409 (by decide +kernel) (by decide +kernel), mem_u 410 (by decide +kernel) (by decide +kernel), mem_u 411 (by decide +kernel) (by decide +kernel), _, _, rfl⟩
theorem lv_X11_91 : LkV RX11 91 yX10_forget 10 := ⟨mem_u 413 (by decide +kernel) (by decide +kernel), mem_u 414 (by decide +kernel) (by decide +kernel), mem_u 415 (by decide +kernel) (by decide +kernel), _, _, rfl⟩
theorem lv_L_31 : LkV R_law 31 yX11_about 11 := ⟨mem_u 417 (by decide +kernel) (by decide +kernel), mem_u 418 (by decide +kernel) (by decide +kernel), mem_u 419 (by decide +kernel) (by decide +kernel), _, _, rfl⟩
theorem lv_X11_101 : LkV RX11 101 yX8_borrowerAt 8 := ⟨mem_u 421 (by decide +kernel) (by decide +kernel), mem_u 422 (by decide +kernel) (by decide +kernel), mem_u 423 (by decide +kernel) (by decide +kernel), _, _, rfl⟩
theorem lv_X11_105 : LkV RX11 105 yX0_kind 0 := ⟨mem_u 425 (by decide +kernel) (by decide +kernel), mem_u 426 (by decide +kernel) (by decide +kernel), mem_u 427 (by decide +kernel) (by decide +kernel), _, _, rfl⟩
theorem lu_X11_105_0 : LkU RX11 105 yX0_kind yX0_kind 0 := ⟨RX0, TX0, 3, RX0, cX0_kind, 1, some .int, rfl, mem_u 425 (by decide +kernel) (by decide +kernel), mem_u 428 (by decide +kernel) (by decide +kernel), mem_u 426 (by decide +kernel) (by decide +kernel), mem_u 441 (by decide +kernel) (by decide +kernel), mem_u 427 (by decide +kernel) (by decide +kernel), mem_u 426 (by decide +kernel) (by decide +kernel), ⟨by decide +kernel, by decide +kernel⟩, rfl⟩
theorem lu_X11_105_1 : LkU RX11 105 yX0_kind yX1_kind 1 := ⟨RX1, TX1, 3, RX0, cX0_kind, 1, some .int, rfl, mem_u 425 (by decide +kernel) (by decide +kernel), mem_u 428 (by decide +kernel) (by decide +kernel), mem_u 426 (by decide +kernel) (by decide +kernel), mem_u 441 (by decide +kernel) (by decide +kernel), mem_u 429 (by decide +kernel) (by decide +kernel), mem_u 430 (by decide +kernel) (by decide +kernel), ⟨by decide +kernel, by decide +kernel⟩, rfl⟩
theorem lu_X11_105_4 : LkU RX11 105 yX0_kind yX4_kind 4 := ⟨RX4, TX4, 3, RX0, cX0_kind, 1, some .int, rfl, mem_u 425 (by decide +kernel) (by decide +kernel), mem_u 428 (by decide +kernel) (by decide +kernel), mem_u 426 (by decide +kernel) (by decide +kernel), mem_u 441 (by decide +kernel) (by decide +kernel), mem_u 432 (by decide +kernel) (by decide +kernel), mem_u 433 (by decide +kernel) (by decide +kernel), ⟨by decide +kernel, by decide +kernel⟩, rfl⟩
theorem lu_X11_105_6 : LkU RX11 105 yX0_kind yX6_kind 6 := ⟨RX6, TX6, 3, RX0, cX0_kind, 1, some .int, rfl, mem_u 425 (by decide +kernel) (by decide +kernel), mem_u 428 (by decide +kernel) (by decide +kernel), mem_u 426 (by decide +kernel) (by decide +kernel), mem_u 441 (by decide +kernel) (by decide +kernel), mem_u 435 (by decide +kernel) (by decide +kernel), mem_u 436 (by decide +kernel) (by decide +kernel), ⟨by decide +kernel, by decide +kernel⟩, rfl⟩
theorem lu_X11_105_9 : LkU RX11 105 yX0_kind yX9_kind 9 := ⟨RX9, TX9, 3, RX0, cX0_kind, 1, some .int, rfl, mem_u 425 (by decide +kernel) (by decide +kernel), mem_u 428 (by decide +kernel) (by decide +kernel), mem_u 426 (by decide +kernel) (by decide +kernel), mem_u 441 (by decide +kernel) (by decide +kernel), mem_u 438 (by decide +kernel) (by decide +kernel), mem_u 439 (by decide +kernel) (by decide +kernel), ⟨by decide +kernel, by decide +kernel⟩, rfl⟩
theorem lv_X11_119 : LkV RX11 119 yX7_numberHeldBy 7 := ⟨mem_u 442 (by decide +kernel) (by decide +kernel), mem_u 443 (by decide +kernel) (by decide +kernel), mem_u 444 (by decide +kernel) (by decide +kernel), _, _, rfl⟩
theorem lv_X11_122 : LkV RX11 122 yX7_daysLeftAt 7 := ⟨mem_u 447 (by decide +kernel) (by decide +kernel), mem_u 448 (by decide +kernel) (by decide +kernel), mem_u 449 (by decide +kernel) (by decide +kernel), _, _, rfl⟩
theorem lv_X7_52 : LkV RX7 52 yX7_numberHeldBy 7 := ⟨mem_u 451 (by decide +kernel) (by decide +kernel), mem_u 443 (by decide +kernel) (by decide +kernel), mem_u 444 (by decide +kernel) (by decide +kernel), _, _, rfl⟩
theorem lv_L_36 : LkV R_law 36 yX11_as 11 := ⟨mem_u 452 (by decide +kernel) (by decide +kernel), mem_u 453 (by decide +kernel) (by decide +kernel), mem_u 454 (by decide +kernel) (by decide +kernel), _, _, rfl⟩
theorem ls_X11_125 : LkS RX11 125 yX11_isOfKind := ⟨.inl (mem_u 456 (by decide +kernel) (by decide +kernel)), mem_u 457 (by decide +kernel) (by decide +kernel)⟩
theorem lv_L_40 : LkV R_law 40 yX11_thing 11 := ⟨mem_u 463 (by decide +kernel) (by decide +kernel), mem_u 464 (by decide +kernel) (by decide +kernel), mem_u 465 (by decide +kernel) (by decide +kernel), _, _, rfl⟩
theorem ls_X11_129 : LkS RX11 129 yX11_isState := ⟨.inl (mem_u 467 (by decide +kernel) (by decide +kernel)), mem_u 468 (by decide +kernel) (by decide +kernel)⟩
theorem lv_X11_134 : LkV RX11 134 yX7_add 7 := ⟨mem_u 470 (by decide +kernel) (by decide +kernel), mem_u 471 (by decide +kernel) (by decide +kernel), mem_u 472 (by decide +kernel) (by decide +kernel), _, _, rfl⟩
theorem lv_L_44 : LkV R_law 44 yX11_thingOf 11 := ⟨mem_u 475 (by decide +kernel) (by decide +kernel), mem_u 476 (by decide +kernel) (by decide +kernel), mem_u 477 (by decide +kernel) (by decide +kernel), _, _, rfl⟩
theorem lv_X11_136 : LkV RX11 136 yX7_has 7 := ⟨mem_u 479 (by decide +kernel) (by decide +kernel), mem_u 480 (by decide +kernel) (by decide +kernel), mem_u 481 (by decide +kernel) (by decide +kernel), _, _, rfl⟩
theorem lv_X11_139 : LkV RX11 139 yX7_stateOf 7 := ⟨mem_u 483 (by decide +kernel) (by decide +kernel), mem_u 484 (by decide +kernel) (by decide +kernel), mem_u 485 (by decide +kernel) (by decide +kernel), _, _, rfl⟩
theorem ls_X11_142 : LkS RX11 142 yX11_traitOf := ⟨.inl (mem_u 487 (by decide +kernel) (by decide +kernel)), mem_u 388 (by decide +kernel) (by decide +kernel)⟩
theorem lv_X11_146 : LkV RX11 146 yX7_holderOf 7 := ⟨mem_u 488 (by decide +kernel) (by decide +kernel), mem_u 489 (by decide +kernel) (by decide +kernel), mem_u 490 (by decide +kernel) (by decide +kernel), _, _, rfl⟩
theorem lv_X11_149 : LkV RX11 149 yX7_returnsOf 7 := ⟨mem_u 492 (by decide +kernel) (by decide +kernel), mem_u 493 (by decide +kernel) (by decide +kernel), mem_u 494 (by decide +kernel) (by decide +kernel), _, _, rfl⟩
theorem lv_X11_152 : LkV RX11 152 yX7_stateAtHome 7 := ⟨mem_u 496 (by decide +kernel) (by decide +kernel), mem_u 497 (by decide +kernel) (by decide +kernel), mem_u 498 (by decide +kernel) (by decide +kernel), _, _, rfl⟩
theorem lv_X7_42 : LkV RX7 42 yX7_isLent 7 := ⟨mem_u 500 (by decide +kernel) (by decide +kernel), mem_u 501 (by decide +kernel) (by decide +kernel), mem_u 502 (by decide +kernel) (by decide +kernel), _, _, rfl⟩
theorem lv_X7_46 : LkV RX7 46 yX8_after 8 := ⟨mem_u 504 (by decide +kernel) (by decide +kernel), mem_u 505 (by decide +kernel) (by decide +kernel), mem_u 506 (by decide +kernel) (by decide +kernel), _, _, rfl⟩
theorem lv_L_48 : LkV R_law 48 yX11_lend 11 := ⟨mem_u 508 (by decide +kernel) (by decide +kernel), mem_u 509 (by decide +kernel) (by decide +kernel), mem_u 510 (by decide +kernel) (by decide +kernel), _, _, rfl⟩
theorem lv_X11_156 : LkV RX11 156 yX7_isLent 7 := ⟨mem_u 512 (by decide +kernel) (by decide +kernel), mem_u 501 (by decide +kernel) (by decide +kernel), mem_u 502 (by decide +kernel) (by decide +kernel), _, _, rfl⟩
theorem lv_X11_159 : LkV RX11 159 yX7_give 7 := ⟨mem_u 513 (by decide +kernel) (by decide +kernel), mem_u 514 (by decide +kernel) (by decide +kernel), mem_u 515 (by decide +kernel) (by decide +kernel), _, _, rfl⟩
theorem lv_L_52 : LkV R_law 52 yX11_day 11 := ⟨mem_u 517 (by decide +kernel) (by decide +kernel), mem_u 518 (by decide +kernel) (by decide +kernel), mem_u 519 (by decide +kernel) (by decide +kernel), _, _, rfl⟩
theorem lv_X11_163 : LkV RX11 163 yX7_passDay 7 := ⟨mem_u 521 (by decide +kernel) (by decide +kernel), mem_u 522 (by decide +kernel) (by decide +kernel), mem_u 523 (by decide +kernel) (by decide +kernel), _, _, rfl⟩
theorem lv_X7_56 : LkV RX7 56 yX7_takeBack 7 := ⟨mem_u 525 (by decide +kernel) (by decide +kernel), mem_u 527 (by decide +kernel) (by decide +kernel), mem_u 1 (by decide +kernel) (by decide +kernel), _, _, rfl⟩
theorem lv_X7_67 : LkV RX7 67 yX7_stateAtHome 7 := ⟨mem_u 529 (by decide +kernel) (by decide +kernel), mem_u 497 (by decide +kernel) (by decide +kernel), mem_u 498 (by decide +kernel) (by decide +kernel), _, _, rfl⟩
theorem lv_L_56 : LkV R_law 56 yX11_by 11 := ⟨mem_u 530 (by decide +kernel) (by decide +kernel), mem_u 531 (by decide +kernel) (by decide +kernel), mem_u 532 (by decide +kernel) (by decide +kernel), _, _, rfl⟩
theorem lv_X11_167 : LkV RX11 167 yX8_after 8 := ⟨mem_u 534 (by decide +kernel) (by decide +kernel), mem_u 505 (by decide +kernel) (by decide +kernel), mem_u 506 (by decide +kernel) (by decide +kernel), _, _, rfl⟩
theorem lv_L_60 : LkV R_law 60 yX11_wished 11 := ⟨mem_u 535 (by decide +kernel) (by decide +kernel), mem_u 536 (by decide +kernel) (by decide +kernel), mem_u 537 (by decide +kernel) (by decide +kernel), _, _, rfl⟩
theorem lv_X11_170 : LkV RX11 170 yX10_searchFrom 10 := ⟨mem_u 539 (by decide +kernel) (by decide +kernel), mem_u 540 (by decide +kernel) (by decide +kernel), mem_u 541 (by decide +kernel) (by decide +kernel), _, _, rfl⟩
theorem lv_X10_43 : LkV RX10 43 yX10_begin 10 := ⟨mem_u 543 (by decide +kernel) (by decide +kernel), mem_u 545 (by decide +kernel) (by decide +kernel), mem_u 2 (by decide +kernel) (by decide +kernel), _, _, rfl⟩
theorem lv_X10_50 : LkV RX10 50 yX10_addAllOf 10 := ⟨mem_u 551 (by decide +kernel) (by decide +kernel), mem_u 553 (by decide +kernel) (by decide +kernel), mem_u 3 (by decide +kernel) (by decide +kernel), _, _, rfl⟩
theorem lv_X10_66 : LkV RX10 66 yX8_daysOf 8 := ⟨mem_u 555 (by decide +kernel) (by decide +kernel), mem_u 556 (by decide +kernel) (by decide +kernel), mem_u 557 (by decide +kernel) (by decide +kernel), _, _, rfl⟩
theorem lv_X8_54 : LkV RX8 54 yX8_borrowerAt 8 := ⟨mem_u 559 (by decide +kernel) (by decide +kernel), mem_u 422 (by decide +kernel) (by decide +kernel), mem_u 423 (by decide +kernel) (by decide +kernel), _, _, rfl⟩
theorem lv_X10_70 : LkV RX10 70 yX10_addLoan 10 := ⟨mem_u 561 (by decide +kernel) (by decide +kernel), mem_u 563 (by decide +kernel) (by decide +kernel), mem_u 4 (by decide +kernel) (by decide +kernel), _, _, rfl⟩
theorem lv_X10_74 : LkV RX10 74 yX8_after 8 := ⟨mem_u 565 (by decide +kernel) (by decide +kernel), mem_u 505 (by decide +kernel) (by decide +kernel), mem_u 506 (by decide +kernel) (by decide +kernel), _, _, rfl⟩
theorem lv_X11_173 : LkV RX11 173 yX10_costOf 10 := ⟨mem_u 566 (by decide +kernel) (by decide +kernel), mem_u 567 (by decide +kernel) (by decide +kernel), mem_u 568 (by decide +kernel) (by decide +kernel), _, _, rfl⟩
theorem lv_X11_176 : LkV RX11 176 yX10_firstTo 10 := ⟨mem_u 570 (by decide +kernel) (by decide +kernel), mem_u 571 (by decide +kernel) (by decide +kernel), mem_u 572 (by decide +kernel) (by decide +kernel), _, _, rfl⟩
theorem lv_L_65 : LkV R_law 65 yX11_reach 11 := ⟨mem_u 574 (by decide +kernel) (by decide +kernel), mem_u 575 (by decide +kernel) (by decide +kernel), mem_u 576 (by decide +kernel) (by decide +kernel), _, _, rfl⟩
theorem lv_L_69 : LkV R_law 69 yX11_spoilers 11 := ⟨mem_u 578 (by decide +kernel) (by decide +kernel), mem_u 579 (by decide +kernel) (by decide +kernel), mem_u 580 (by decide +kernel) (by decide +kernel), _, _, rfl⟩
theorem lv_X11_182 : LkV RX11 182 yX5_fewest 5 := ⟨mem_u 582 (by decide +kernel) (by decide +kernel), mem_u 583 (by decide +kernel) (by decide +kernel), mem_u 584 (by decide +kernel) (by decide +kernel), _, _, rfl⟩
theorem ls_X5_32 : LkS RX5 32 yJ6_bitCount_0f7a4 := ⟨.inl (mem_u 587 (by decide +kernel) (by decide +kernel)), mem_u 588 (by decide +kernel) (by decide +kernel)⟩
theorem lv_X5_38 : LkV RX5 38 yX5_isSafeWithout 5 := ⟨mem_u 593 (by decide +kernel) (by decide +kernel), mem_u 595 (by decide +kernel) (by decide +kernel), mem_u 5 (by decide +kernel) (by decide +kernel), _, _, rfl⟩
theorem lv_X5_53 : LkV RX5 53 yX8_after 8 := ⟨mem_u 599 (by decide +kernel) (by decide +kernel), mem_u 505 (by decide +kernel) (by decide +kernel), mem_u 506 (by decide +kernel) (by decide +kernel), _, _, rfl⟩
theorem lv_L_73 : LkV R_law 73 yX11_round 11 := ⟨mem_u 600 (by decide +kernel) (by decide +kernel), mem_u 601 (by decide +kernel) (by decide +kernel), mem_u 602 (by decide +kernel) (by decide +kernel), _, _, rfl⟩
theorem lv_X11_186 : LkV RX11 186 yX2_isRound 2 := ⟨mem_u 604 (by decide +kernel) (by decide +kernel), mem_u 605 (by decide +kernel) (by decide +kernel), mem_u 606 (by decide +kernel) (by decide +kernel), _, _, rfl⟩
theorem lv_X2_39 : LkV RX2 39 yX2_faultOfRound 2 := ⟨mem_u 608 (by decide +kernel) (by decide +kernel), mem_u 283 (by decide +kernel) (by decide +kernel), mem_u 284 (by decide +kernel) (by decide +kernel), _, _, rfl⟩
theorem lv_X11_189 : LkV RX11 189 yX8_timesUntilBack 8 := ⟨mem_u 609 (by decide +kernel) (by decide +kernel), mem_u 610 (by decide +kernel) (by decide +kernel), mem_u 611 (by decide +kernel) (by decide +kernel), _, _, rfl⟩
theorem lv_X8_69 : LkV RX8 69 yX8_endOf 8 := ⟨mem_u 613 (by decide +kernel) (by decide +kernel), mem_u 614 (by decide +kernel) (by decide +kernel), mem_u 615 (by decide +kernel) (by decide +kernel), _, _, rfl⟩
theorem lv_X8_63 : LkV RX8 63 yX2_digitAt 2 := ⟨mem_u 617 (by decide +kernel) (by decide +kernel), mem_u 287 (by decide +kernel) (by decide +kernel), mem_u 288 (by decide +kernel) (by decide +kernel), _, _, rfl⟩
theorem lv_X8_66 : LkV RX8 66 yX8_after 8 := ⟨mem_u 618 (by decide +kernel) (by decide +kernel), mem_u 505 (by decide +kernel) (by decide +kernel), mem_u 506 (by decide +kernel) (by decide +kernel), _, _, rfl⟩
theorem lv_X8_73 : LkV RX8 73 yX8_areAllBackAfterOneMore 8 := ⟨mem_u 619 (by decide +kernel) (by decide +kernel), mem_u 621 (by decide +kernel) (by decide +kernel), mem_u 6 (by decide +kernel) (by decide +kernel), _, _, rfl⟩
theorem lv_X11_193 : LkV RX11 193 yX8_endOf 8 := ⟨mem_u 624 (by decide +kernel) (by decide +kernel), mem_u 614 (by decide +kernel) (by decide +kernel), mem_u 615 (by decide +kernel) (by decide +kernel), _, _, rfl⟩
theorem lv_L_77 : LkV R_law 77 yX11_hands 11 := ⟨mem_u 625 (by decide +kernel) (by decide +kernel), mem_u 626 (by decide +kernel) (by decide +kernel), mem_u 627 (by decide +kernel) (by decide +kernel), _, _, rfl⟩
theorem lv_X11_200 : LkV RX11 200 yX3_follow 3 := ⟨mem_u 629 (by decide +kernel) (by decide +kernel), mem_u 630 (by decide +kernel) (by decide +kernel), mem_u 631 (by decide +kernel) (by decide +kernel), _, _, rfl⟩
theorem lv_X3_40 : LkV RX3 40 yX3_lendToEach 3 := ⟨mem_u 636 (by decide +kernel) (by decide +kernel), mem_u 638 (by decide +kernel) (by decide +kernel), mem_u 7 (by decide +kernel) (by decide +kernel), _, _, rfl⟩
theorem lv_X3_53 : LkV RX3 53 yX8_after 8 := ⟨mem_u 640 (by decide +kernel) (by decide +kernel), mem_u 505 (by decide +kernel) (by decide +kernel), mem_u 506 (by decide +kernel) (by decide +kernel), _, _, rfl⟩
theorem lv_X3_44 : LkV RX3 44 yX3_stepOn 3 := ⟨mem_u 641 (by decide +kernel) (by decide +kernel), mem_u 643 (by decide +kernel) (by decide +kernel), mem_u 8 (by decide +kernel) (by decide +kernel), _, _, rfl⟩
theorem lv_X11_204 : LkV RX11 204 yX3_howManyTo 3 := ⟨mem_u 645 (by decide +kernel) (by decide +kernel), mem_u 646 (by decide +kernel) (by decide +kernel), mem_u 647 (by decide +kernel) (by decide +kernel), _, _, rfl⟩
theorem lv_X11_207 : LkV RX11 207 yX3_inEachTo 3 := ⟨mem_u 649 (by decide +kernel) (by decide +kernel), mem_u 650 (by decide +kernel) (by decide +kernel), mem_u 651 (by decide +kernel) (by decide +kernel), _, _, rfl⟩
theorem lv_L_82 : LkV R_law 82 yX11_years 11 := ⟨mem_u 653 (by decide +kernel) (by decide +kernel), mem_u 654 (by decide +kernel) (by decide +kernel), mem_u 655 (by decide +kernel) (by decide +kernel), _, _, rfl⟩
theorem lv_X11_210 : LkV RX11 210 yX7_dreamYears 7 := ⟨mem_u 657 (by decide +kernel) (by decide +kernel), mem_u 658 (by decide +kernel) (by decide +kernel), mem_u 659 (by decide +kernel) (by decide +kernel), _, _, rfl⟩
theorem lv_X7_71 : LkV RX7 71 yX7_drawOf 7 := ⟨mem_u 661 (by decide +kernel) (by decide +kernel), mem_u 663 (by decide +kernel) (by decide +kernel), mem_u 9 (by decide +kernel) (by decide +kernel), _, _, rfl⟩
theorem lv_X11_214 : LkV RX11 214 yX7_stateOfFirstThen 7 := ⟨mem_u 669 (by decide +kernel) (by decide +kernel), mem_u 670 (by decide +kernel) (by decide +kernel), mem_u 671 (by decide +kernel) (by decide +kernel), _, _, rfl⟩
theorem lv_X11_217 : LkV RX11 217 yX7_traitsTogetherThen 7 := ⟨mem_u 673 (by decide +kernel) (by decide +kernel), mem_u 674 (by decide +kernel) (by decide +kernel), mem_u 675 (by decide +kernel) (by decide +kernel), _, _, rfl⟩
theorem lv_X7_60 : LkV RX7 60 yX7_traitsOf 7 := ⟨mem_u 677 (by decide +kernel) (by decide +kernel), mem_u 679 (by decide +kernel) (by decide +kernel), mem_u 10 (by decide +kernel) (by decide +kernel), _, _, rfl⟩
theorem lv_L_86 : LkV R_law 86 yX11_image 11 := ⟨mem_u 684 (by decide +kernel) (by decide +kernel), mem_u 685 (by decide +kernel) (by decide +kernel), mem_u 686 (by decide +kernel) (by decide +kernel), _, _, rfl⟩
theorem lv_X11_223 : LkV RX11 223 yX7_copyFrom 7 := ⟨mem_u 688 (by decide +kernel) (by decide +kernel), mem_u 689 (by decide +kernel) (by decide +kernel), mem_u 690 (by decide +kernel) (by decide +kernel), _, _, rfl⟩
theorem lv_L_90 : LkV R_law 90 yX11_restore 11 := ⟨mem_u 692 (by decide +kernel) (by decide +kernel), mem_u 693 (by decide +kernel) (by decide +kernel), mem_u 694 (by decide +kernel) (by decide +kernel), _, _, rfl⟩
theorem lv_L_94 : LkV R_law 94 yX11_count 11 := ⟨mem_u 696 (by decide +kernel) (by decide +kernel), mem_u 697 (by decide +kernel) (by decide +kernel), mem_u 698 (by decide +kernel) (by decide +kernel), _, _, rfl⟩
theorem lv_X11_228 : LkV RX11 228 yX7_howManyLent 7 := ⟨mem_u 700 (by decide +kernel) (by decide +kernel), mem_u 701 (by decide +kernel) (by decide +kernel), mem_u 702 (by decide +kernel) (by decide +kernel), _, _, rfl⟩
theorem lv_X11_231 : LkV RX11 231 yX7_traitsTogether 7 := ⟨mem_u 704 (by decide +kernel) (by decide +kernel), mem_u 705 (by decide +kernel) (by decide +kernel), mem_u 706 (by decide +kernel) (by decide +kernel), _, _, rfl⟩
theorem lv_L_98 : LkV R_law 98 yX11_digest 11 := ⟨mem_u 708 (by decide +kernel) (by decide +kernel), mem_u 709 (by decide +kernel) (by decide +kernel), mem_u 710 (by decide +kernel) (by decide +kernel), _, _, rfl⟩
theorem lv_X11_238 : LkV RX11 238 yX11_about 11 := ⟨mem_u 714 (by decide +kernel) (by decide +kernel), mem_u 418 (by decide +kernel) (by decide +kernel), mem_u 419 (by decide +kernel) (by decide +kernel), _, _, rfl⟩
theorem lv_X11_241 : LkV RX11 241 yX11_mixedThing 11 := ⟨mem_u 715 (by decide +kernel) (by decide +kernel), mem_u 717 (by decide +kernel) (by decide +kernel), mem_u 11 (by decide +kernel) (by decide +kernel), _, _, rfl⟩
theorem lv_X11_251 : LkV RX11 251 yX11_thingOf 11 := ⟨mem_u 719 (by decide +kernel) (by decide +kernel), mem_u 476 (by decide +kernel) (by decide +kernel), mem_u 477 (by decide +kernel) (by decide +kernel), _, _, rfl⟩
theorem lv_X11_254 : LkV RX11 254 yX11_reach 11 := ⟨mem_u 720 (by decide +kernel) (by decide +kernel), mem_u 575 (by decide +kernel) (by decide +kernel), mem_u 576 (by decide +kernel) (by decide +kernel), _, _, rfl⟩
theorem lv_X11_257 : LkV RX11 257 yX11_wished 11 := ⟨mem_u 721 (by decide +kernel) (by decide +kernel), mem_u 536 (by decide +kernel) (by decide +kernel), mem_u 537 (by decide +kernel) (by decide +kernel), _, _, rfl⟩
theorem lv_X11_245 : LkV RX11 245 yX2_codeAt 2 := ⟨mem_u 722 (by decide +kernel) (by decide +kernel), mem_u 723 (by decide +kernel) (by decide +kernel), mem_u 724 (by decide +kernel) (by decide +kernel), _, _, rfl⟩
theorem lv_X11_248 : LkV RX11 248 yX11_count 11 := ⟨mem_u 726 (by decide +kernel) (by decide +kernel), mem_u 697 (by decide +kernel) (by decide +kernel), mem_u 698 (by decide +kernel) (by decide +kernel), _, _, rfl⟩
theorem li_L_12 : LkI R_law 12 yX12_init := ⟨.inl (mem_u 729 (by decide +kernel) (by decide +kernel)), mem_u 730 (by decide +kernel) (by decide +kernel), rfl⟩
theorem lo_X12_1 : Cond.methodLink RX12 1 objectInit ∈ lw_u := mem_u 732 (by decide +kernel) (by decide +kernel)
theorem lv_L_17 : LkV R_law 17 yX12_letter 12 := ⟨mem_u 846 (by decide +kernel) (by decide +kernel), mem_u 847 (by decide +kernel) (by decide +kernel), mem_u 848 (by decide +kernel) (by decide +kernel), _, _, rfl⟩
theorem ls_X12_77 : LkS RX12 77 yX12_within := ⟨.inl (mem_u 850 (by decide +kernel) (by decide +kernel)), mem_u 851 (by decide +kernel) (by decide +kernel)⟩
theorem lv_L_22 : LkV R_law 22 yX12_blank 12 := ⟨mem_u 853 (by decide +kernel) (by decide +kernel), mem_u 854 (by decide +kernel) (by decide +kernel), mem_u 855 (by decide +kernel) (by decide +kernel), _, _, rfl⟩
theorem lv_L_26 : LkV R_law 26 yX12_fault 12 := ⟨mem_u 857 (by decide +kernel) (by decide +kernel), mem_u 858 (by decide +kernel) (by decide +kernel), mem_u 859 (by decide +kernel) (by decide +kernel), _, _, rfl⟩
theorem lv_X12_106 : LkV RX12 106 yX12_readTown 12 := ⟨mem_u 861 (by decide +kernel) (by decide +kernel), mem_u 863 (by decide +kernel) (by decide +kernel), mem_u 12 (by decide +kernel) (by decide +kernel), _, _, rfl⟩
theorem lv_X12_89 : LkV RX12 89 yX12_isGood 12 := ⟨mem_u 865 (by decide +kernel) (by decide +kernel), mem_u 867 (by decide +kernel) (by decide +kernel), mem_u 13 (by decide +kernel) (by decide +kernel), _, _, rfl⟩
theorem ls_X12_85 : LkS RX12 85 yX12_kindBy := ⟨.inl (mem_u 869 (by decide +kernel) (by decide +kernel)), mem_u 870 (by decide +kernel) (by decide +kernel)⟩
theorem lv_X12_109 : LkV RX12 109 yX12_readRound 12 := ⟨mem_u 872 (by decide +kernel) (by decide +kernel), mem_u 874 (by decide +kernel) (by decide +kernel), mem_u 14 (by decide +kernel) (by decide +kernel), _, _, rfl⟩
theorem lv_L_30 : LkV R_law 30 yX12_town 12 := ⟨mem_u 876 (by decide +kernel) (by decide +kernel), mem_u 877 (by decide +kernel) (by decide +kernel), mem_u 878 (by decide +kernel) (by decide +kernel), _, _, rfl⟩
theorem lv_L_35 : LkV R_law 35 yX12_about 12 := ⟨mem_u 880 (by decide +kernel) (by decide +kernel), mem_u 881 (by decide +kernel) (by decide +kernel), mem_u 882 (by decide +kernel) (by decide +kernel), _, _, rfl⟩
theorem lv_X12_132 : LkV RX12 132 yX12_isBorrower 12 := ⟨mem_u 884 (by decide +kernel) (by decide +kernel), mem_u 886 (by decide +kernel) (by decide +kernel), mem_u 15 (by decide +kernel) (by decide +kernel), _, _, rfl⟩
theorem lv_X12_135 : LkV RX12 135 yX12_borrowerNow 12 := ⟨mem_u 888 (by decide +kernel) (by decide +kernel), mem_u 890 (by decide +kernel) (by decide +kernel), mem_u 16 (by decide +kernel) (by decide +kernel), _, _, rfl⟩
theorem lv_X12_129 : LkV RX12 129 yX12_whoseThing 12 := ⟨mem_u 892 (by decide +kernel) (by decide +kernel), mem_u 894 (by decide +kernel) (by decide +kernel), mem_u 17 (by decide +kernel) (by decide +kernel), _, _, rfl⟩
theorem lv_L_39 : LkV R_law 39 yX12_as 12 := ⟨mem_u 896 (by decide +kernel) (by decide +kernel), mem_u 897 (by decide +kernel) (by decide +kernel), mem_u 898 (by decide +kernel) (by decide +kernel), _, _, rfl⟩
theorem lv_L_43 : LkV R_law 43 yX12_thing 12 := ⟨mem_u 900 (by decide +kernel) (by decide +kernel), mem_u 901 (by decide +kernel) (by decide +kernel), mem_u 902 (by decide +kernel) (by decide +kernel), _, _, rfl⟩
theorem ls_X12_138 : LkS RX12 138 yX12_isState := ⟨.inl (mem_u 904 (by decide +kernel) (by decide +kernel)), mem_u 905 (by decide +kernel) (by decide +kernel)⟩
theorem lv_L_47 : LkV R_law 47 yX12_thingOf 12 := ⟨mem_u 907 (by decide +kernel) (by decide +kernel), mem_u 908 (by decide +kernel) (by decide +kernel), mem_u 909 (by decide +kernel) (by decide +kernel), _, _, rfl⟩
theorem lv_X12_147 : LkV RX12 147 yX12_isThing 12 := ⟨mem_u 911 (by decide +kernel) (by decide +kernel), mem_u 913 (by decide +kernel) (by decide +kernel), mem_u 18 (by decide +kernel) (by decide +kernel), _, _, rfl⟩
theorem lv_X12_150 : LkV RX12 150 yX12_thingNow 12 := ⟨mem_u 915 (by decide +kernel) (by decide +kernel), mem_u 917 (by decide +kernel) (by decide +kernel), mem_u 19 (by decide +kernel) (by decide +kernel), _, _, rfl⟩
theorem lv_X12_144 : LkV RX12 144 yX12_homeState 12 := ⟨mem_u 919 (by decide +kernel) (by decide +kernel), mem_u 921 (by decide +kernel) (by decide +kernel), mem_u 20 (by decide +kernel) (by decide +kernel), _, _, rfl⟩
theorem lv_X12_141 : LkV RX12 141 yX12_made 12 := ⟨mem_u 923 (by decide +kernel) (by decide +kernel), mem_u 925 (by decide +kernel) (by decide +kernel), mem_u 21 (by decide +kernel) (by decide +kernel), _, _, rfl⟩
theorem ls_X12_121 : LkS RX12 121 yX12_traitIn := ⟨.inl (mem_u 927 (by decide +kernel) (by decide +kernel)), mem_u 928 (by decide +kernel) (by decide +kernel)⟩
theorem ls_X12_125 : LkS RX12 125 yX12_with := ⟨.inl (mem_u 930 (by decide +kernel) (by decide +kernel)), mem_u 931 (by decide +kernel) (by decide +kernel)⟩
theorem lv_L_51 : LkV R_law 51 yX12_lend 12 := ⟨mem_u 933 (by decide +kernel) (by decide +kernel), mem_u 934 (by decide +kernel) (by decide +kernel), mem_u 935 (by decide +kernel) (by decide +kernel), _, _, rfl⟩
theorem lv_L_55 : LkV R_law 55 yX12_day 12 := ⟨mem_u 937 (by decide +kernel) (by decide +kernel), mem_u 938 (by decide +kernel) (by decide +kernel), mem_u 939 (by decide +kernel) (by decide +kernel), _, _, rfl⟩
theorem lv_L_59 : LkV R_law 59 yX12_by 12 := ⟨mem_u 941 (by decide +kernel) (by decide +kernel), mem_u 942 (by decide +kernel) (by decide +kernel), mem_u 943 (by decide +kernel) (by decide +kernel), _, _, rfl⟩
theorem lv_L_64 : LkV R_law 64 yX12_wished 12 := ⟨mem_u 945 (by decide +kernel) (by decide +kernel), mem_u 946 (by decide +kernel) (by decide +kernel), mem_u 947 (by decide +kernel) (by decide +kernel), _, _, rfl⟩
theorem lv_X12_162 : LkV RX12 162 yX12_wishedNow 12 := ⟨mem_u 949 (by decide +kernel) (by decide +kernel), mem_u 951 (by decide +kernel) (by decide +kernel), mem_u 22 (by decide +kernel) (by decide +kernel), _, _, rfl⟩
theorem lv_X12_158 : LkV RX12 158 yX12_layWaves 12 := ⟨mem_u 953 (by decide +kernel) (by decide +kernel), mem_u 955 (by decide +kernel) (by decide +kernel), mem_u 23 (by decide +kernel) (by decide +kernel), _, _, rfl⟩
theorem lv_X12_154 : LkV RX12 154 yX12_goFrom 12 := ⟨mem_u 958 (by decide +kernel) (by decide +kernel), mem_u 960 (by decide +kernel) (by decide +kernel), mem_u 24 (by decide +kernel) (by decide +kernel), _, _, rfl⟩
theorem lv_L_68 : LkV R_law 68 yX12_reach 12 := ⟨mem_u 962 (by decide +kernel) (by decide +kernel), mem_u 963 (by decide +kernel) (by decide +kernel), mem_u 964 (by decide +kernel) (by decide +kernel), _, _, rfl⟩
theorem lv_X12_165 : LkV RX12 165 yX12_reachNow 12 := ⟨mem_u 966 (by decide +kernel) (by decide +kernel), mem_u 968 (by decide +kernel) (by decide +kernel), mem_u 25 (by decide +kernel) (by decide +kernel), _, _, rfl⟩
theorem lv_L_72 : LkV R_law 72 yX12_spoilers 12 := ⟨mem_u 970 (by decide +kernel) (by decide +kernel), mem_u 971 (by decide +kernel) (by decide +kernel), mem_u 972 (by decide +kernel) (by decide +kernel), _, _, rfl⟩
theorem lv_X12_175 : LkV RX12 175 yX12_spoilersNow 12 := ⟨mem_u 974 (by decide +kernel) (by decide +kernel), mem_u 976 (by decide +kernel) (by decide +kernel), mem_u 26 (by decide +kernel) (by decide +kernel), _, _, rfl⟩
theorem ls_X12_168 : LkS RX12 168 yX12_size := ⟨.inl (mem_u 978 (by decide +kernel) (by decide +kernel)), mem_u 979 (by decide +kernel) (by decide +kernel)⟩
theorem lv_X12_171 : LkV RX12 171 yX12_isSafe 12 := ⟨mem_u 981 (by decide +kernel) (by decide +kernel), mem_u 983 (by decide +kernel) (by decide +kernel), mem_u 27 (by decide +kernel) (by decide +kernel), _, _, rfl⟩
theorem lv_L_76 : LkV R_law 76 yX12_round 12 := ⟨mem_u 985 (by decide +kernel) (by decide +kernel), mem_u 986 (by decide +kernel) (by decide +kernel), mem_u 987 (by decide +kernel) (by decide +kernel), _, _, rfl⟩
theorem lv_X12_181 : LkV RX12 181 yX12_backNow 12 := ⟨mem_u 989 (by decide +kernel) (by decide +kernel), mem_u 991 (by decide +kernel) (by decide +kernel), mem_u 28 (by decide +kernel) (by decide +kernel), _, _, rfl⟩
theorem lv_X12_178 : LkV RX12 178 yX12_endsOf 12 := ⟨mem_u 993 (by decide +kernel) (by decide +kernel), mem_u 995 (by decide +kernel) (by decide +kernel), mem_u 29 (by decide +kernel) (by decide +kernel), _, _, rfl⟩
theorem lv_L_81 : LkV R_law 81 yX12_hands 12 := ⟨mem_u 997 (by decide +kernel) (by decide +kernel), mem_u 998 (by decide +kernel) (by decide +kernel), mem_u 999 (by decide +kernel) (by decide +kernel), _, _, rfl⟩
theorem lv_X12_192 : LkV RX12 192 yX12_handsNow 12 := ⟨mem_u 1001 (by decide +kernel) (by decide +kernel), mem_u 1003 (by decide +kernel) (by decide +kernel), mem_u 30 (by decide +kernel) (by decide +kernel), _, _, rfl⟩
theorem lv_X12_185 : LkV RX12 185 yX12_rowsWithout 12 := ⟨mem_u 1005 (by decide +kernel) (by decide +kernel), mem_u 1007 (by decide +kernel) (by decide +kernel), mem_u 31 (by decide +kernel) (by decide +kernel), _, _, rfl⟩
theorem lv_L_85 : LkV R_law 85 yX12_years 12 := ⟨mem_u 1009 (by decide +kernel) (by decide +kernel), mem_u 1010 (by decide +kernel) (by decide +kernel), mem_u 1011 (by decide +kernel) (by decide +kernel), _, _, rfl⟩
theorem lv_X12_213 : LkV RX12 213 yX12_yearsNow 12 := ⟨mem_u 1013 (by decide +kernel) (by decide +kernel), mem_u 1015 (by decide +kernel) (by decide +kernel), mem_u 32 (by decide +kernel) (by decide +kernel), _, _, rfl⟩
theorem lv_X12_207 : LkV RX12 207 yX12_draw 12 := ⟨mem_u 1017 (by decide +kernel) (by decide +kernel), mem_u 1019 (by decide +kernel) (by decide +kernel), mem_u 33 (by decide +kernel) (by decide +kernel), _, _, rfl⟩
theorem ls_X12_210 : LkS RX12 210 yX12_traitsIn := ⟨.inl (mem_u 1025 (by decide +kernel) (by decide +kernel)), mem_u 1026 (by decide +kernel) (by decide +kernel)⟩
theorem lv_L_89 : LkV R_law 89 yX12_image 12 := ⟨mem_u 1028 (by decide +kernel) (by decide +kernel), mem_u 1029 (by decide +kernel) (by decide +kernel), mem_u 1030 (by decide +kernel) (by decide +kernel), _, _, rfl⟩
theorem lv_L_93 : LkV R_law 93 yX12_restore 12 := ⟨mem_u 1032 (by decide +kernel) (by decide +kernel), mem_u 1033 (by decide +kernel) (by decide +kernel), mem_u 1034 (by decide +kernel) (by decide +kernel), _, _, rfl⟩
theorem lv_L_97 : LkV R_law 97 yX12_count 12 := ⟨mem_u 1036 (by decide +kernel) (by decide +kernel), mem_u 1037 (by decide +kernel) (by decide +kernel), mem_u 1038 (by decide +kernel) (by decide +kernel), _, _, rfl⟩
theorem lv_X12_234 : LkV RX12 234 yX12_howMany 12 := ⟨mem_u 1040 (by decide +kernel) (by decide +kernel), mem_u 1042 (by decide +kernel) (by decide +kernel), mem_u 34 (by decide +kernel) (by decide +kernel), _, _, rfl⟩
theorem lv_X12_228 : LkV RX12 228 yX12_lentMany 12 := ⟨mem_u 1044 (by decide +kernel) (by decide +kernel), mem_u 1046 (by decide +kernel) (by decide +kernel), mem_u 35 (by decide +kernel) (by decide +kernel), _, _, rfl⟩
theorem lv_X12_231 : LkV RX12 231 yX12_traitsAll 12 := ⟨mem_u 1048 (by decide +kernel) (by decide +kernel), mem_u 1050 (by decide +kernel) (by decide +kernel), mem_u 36 (by decide +kernel) (by decide +kernel), _, _, rfl⟩
theorem lv_L_102 : LkV R_law 102 yX12_digest 12 := ⟨mem_u 1052 (by decide +kernel) (by decide +kernel), mem_u 1053 (by decide +kernel) (by decide +kernel), mem_u 1054 (by decide +kernel) (by decide +kernel), _, _, rfl⟩
theorem lv_X12_242 : LkV RX12 242 yX12_mix 12 := ⟨mem_u 1057 (by decide +kernel) (by decide +kernel), mem_u 1059 (by decide +kernel) (by decide +kernel), mem_u 37 (by decide +kernel) (by decide +kernel), _, _, rfl⟩
theorem lv_X12_248 : LkV RX12 248 yX12_mixThing 12 := ⟨mem_u 1062 (by decide +kernel) (by decide +kernel), mem_u 1064 (by decide +kernel) (by decide +kernel), mem_u 38 (by decide +kernel) (by decide +kernel), _, _, rfl⟩
theorem li_X11_9 : LkI RX11 9 yX2_init := ⟨.inr ⟨"LentChanged", mem_u 65 (by decide +kernel) (by decide +kernel)⟩, mem_u 66 (by decide +kernel) (by decide +kernel), rfl⟩
theorem li_X11_18 : LkI RX11 18 yX8_init := ⟨.inr ⟨"LentChanged", mem_u 81 (by decide +kernel) (by decide +kernel)⟩, mem_u 82 (by decide +kernel) (by decide +kernel), rfl⟩
theorem li_X11_25 : LkI RX11 25 yX7_init := ⟨.inr ⟨"LentChanged", mem_u 110 (by decide +kernel) (by decide +kernel)⟩, mem_u 111 (by decide +kernel) (by decide +kernel), rfl⟩
theorem ls_X2_19 : LkS RX2 19 yX11_put := ⟨.inr ⟨"LentChanged", mem_u 260 (by decide +kernel) (by decide +kernel)⟩, mem_u 261 (by decide +kernel) (by decide +kernel)⟩
theorem ls_X2_23 : LkS RX2 23 yX11_at := ⟨.inr ⟨"LentChanged", mem_u 279 (by decide +kernel) (by decide +kernel)⟩, mem_u 280 (by decide +kernel) (by decide +kernel)⟩
theorem ls_X6_15 : LkS RX6 15 yX11_traitOf := ⟨.inr ⟨"LentChanged", mem_u 387 (by decide +kernel) (by decide +kernel)⟩, mem_u 388 (by decide +kernel) (by decide +kernel)⟩
theorem ls_X0_21 : LkS RX0 21 yX11_traitOf := ⟨.inr ⟨"LentChanged", mem_u 392 (by decide +kernel) (by decide +kernel)⟩, mem_u 388 (by decide +kernel) (by decide +kernel)⟩
theorem ls_X8_50 : LkS RX8 50 yX11_put := ⟨.inr ⟨"LentChanged", mem_u 408 (by decide +kernel) (by decide +kernel)⟩, mem_u 261 (by decide +kernel) (by decide +kernel)⟩
theorem ls_X7_34 : LkS RX7 34 yX11_at := ⟨.inr ⟨"LentChanged", mem_u 446 (by decide +kernel) (by decide +kernel)⟩, mem_u 280 (by decide +kernel) (by decide +kernel)⟩
theorem ls_X7_38 : LkS RX7 38 yX11_put := ⟨.inr ⟨"LentChanged", mem_u 474 (by decide +kernel) (by decide +kernel)⟩, mem_u 261 (by decide +kernel) (by decide +kernel)⟩
theorem ls_X10_57 : LkS RX10 57 yX11_fill := ⟨.inr ⟨"LentChanged", mem_u 547 (by decide +kernel) (by decide +kernel)⟩, mem_u 548 (by decide +kernel) (by decide +kernel)⟩
theorem ls_X10_53 : LkS RX10 53 yX11_put := ⟨.inr ⟨"LentChanged", mem_u 550 (by decide +kernel) (by decide +kernel)⟩, mem_u 261 (by decide +kernel) (by decide +kernel)⟩
theorem ls_X10_39 : LkS RX10 39 yX11_at := ⟨.inr ⟨"LentChanged", mem_u 560 (by decide +kernel) (by decide +kernel)⟩, mem_u 280 (by decide +kernel) (by decide +kernel)⟩
theorem ls_X5_22 : LkS RX5 22 yX11_traitOf := ⟨.inr ⟨"LentChanged", mem_u 586 (by decide +kernel) (by decide +kernel)⟩, mem_u 388 (by decide +kernel) (by decide +kernel)⟩
theorem ls_X5_45 : LkS RX5 45 yX11_put := ⟨.inr ⟨"LentChanged", mem_u 597 (by decide +kernel) (by decide +kernel)⟩, mem_u 261 (by decide +kernel) (by decide +kernel)⟩
theorem ls_X5_49 : LkS RX5 49 yX11_at := ⟨.inr ⟨"LentChanged", mem_u 598 (by decide +kernel) (by decide +kernel)⟩, mem_u 280 (by decide +kernel) (by decide +kernel)⟩
theorem ls_X8_77 : LkS RX8 77 yX11_at := ⟨.inr ⟨"LentChanged", mem_u 623 (by decide +kernel) (by decide +kernel)⟩, mem_u 280 (by decide +kernel) (by decide +kernel)⟩
theorem ls_X3_32 : LkS RX3 32 yX11_fill := ⟨.inr ⟨"LentChanged", mem_u 633 (by decide +kernel) (by decide +kernel)⟩, mem_u 548 (by decide +kernel) (by decide +kernel)⟩
theorem ls_X3_36 : LkS RX3 36 yX11_put := ⟨.inr ⟨"LentChanged", mem_u 634 (by decide +kernel) (by decide +kernel)⟩, mem_u 261 (by decide +kernel) (by decide +kernel)⟩
theorem ls_X3_28 : LkS RX3 28 yX11_at := ⟨.inr ⟨"LentChanged", mem_u 635 (by decide +kernel) (by decide +kernel)⟩, mem_u 280 (by decide +kernel) (by decide +kernel)⟩
theorem ls_X7_75 : LkS RX7 75 yX11_traitSum := ⟨.inr ⟨"LentChanged", mem_u 681 (by decide +kernel) (by decide +kernel)⟩, mem_u 682 (by decide +kernel) (by decide +kernel)⟩
theorem cl_L_7 : Cond.classLink R_law 7 RX11 ∈ lw_u := mem_u 55 (by decide +kernel) (by decide +kernel)
theorem nw_L_7 : LkN R_law 7 11 11 := ⟨RX11, TX11, tyX11, rfl, inX11, tyX11_ok, cl_L_7, mem_u 56 (by decide +kernel) (by decide +kernel), mem_u 40 (by decide +kernel) (by decide +kernel)⟩
theorem cl_X11_7 : Cond.classLink RX11 7 RX2 ∈ lw_u := mem_u 63 (by decide +kernel) (by decide +kernel)
theorem nw_X11_7 : LkN RX11 7 2 2 := ⟨RX2, TX2, tyX2, rfl, inX2, tyX2_ok, cl_X11_7, mem_u 64 (by decide +kernel) (by decide +kernel), mem_u 41 (by decide +kernel) (by decide +kernel)⟩
theorem cl_X11_16 : Cond.classLink RX11 16 RX8 ∈ lw_u := mem_u 79 (by decide +kernel) (by decide +kernel)
theorem nw_X11_16 : LkN RX11 16 8 5 := ⟨RX8, TX8, tyX8, rfl, inX8, tyX8_ok, cl_X11_16, mem_u 80 (by decide +kernel) (by decide +kernel), mem_u 42 (by decide +kernel) (by decide +kernel)⟩
theorem cl_X8_9 : Cond.classLink RX8 9 RX0 ∈ lw_u := mem_u 85 (by decide +kernel) (by decide +kernel)
theorem nw_X8_9 : LkN RX8 9 0 3 := ⟨RX0, TX0, tyX0, rfl, inX0, tyX0_ok, cl_X8_9, mem_u 372 (by decide +kernel) (by decide +kernel), mem_u 49 (by decide +kernel) (by decide +kernel)⟩
theorem cl_X11_23 : Cond.classLink RX11 23 RX7 ∈ lw_u := mem_u 108 (by decide +kernel) (by decide +kernel)
theorem nw_X11_23 : LkN RX11 23 7 8 := ⟨RX7, TX7, tyX7, rfl, inX7, tyX7_ok, cl_X11_23, mem_u 109 (by decide +kernel) (by decide +kernel), mem_u 43 (by decide +kernel) (by decide +kernel)⟩
theorem cl_X11_33 : Cond.classLink RX11 33 RX10 ∈ lw_u := mem_u 142 (by decide +kernel) (by decide +kernel)
theorem nw_X11_33 : LkN RX11 33 10 9 := ⟨RX10, TX10, tyX10, rfl, inX10, tyX10_ok, cl_X11_33, mem_u 143 (by decide +kernel) (by decide +kernel), mem_u 44 (by decide +kernel) (by decide +kernel)⟩
theorem cl_X11_45 : Cond.classLink RX11 45 RX5 ∈ lw_u := mem_u 177 (by decide +kernel) (by decide +kernel)
theorem nw_X11_45 : LkN RX11 45 5 4 := ⟨RX5, TX5, tyX5, rfl, inX5, tyX5_ok, cl_X11_45, mem_u 178 (by decide +kernel) (by decide +kernel), mem_u 45 (by decide +kernel) (by decide +kernel)⟩
theorem cl_X11_54 : Cond.classLink RX11 54 RX3 ∈ lw_u := mem_u 196 (by decide +kernel) (by decide +kernel)
theorem nw_X11_54 : LkN RX11 54 3 5 := ⟨RX3, TX3, tyX3, rfl, inX3, tyX3_ok, cl_X11_54, mem_u 197 (by decide +kernel) (by decide +kernel), mem_u 46 (by decide +kernel) (by decide +kernel)⟩
theorem cl_X2_42 : Cond.classLink RX2 42 RX4 ∈ lw_u := mem_u 314 (by decide +kernel) (by decide +kernel)
theorem nw_X2_42 : LkN RX2 42 4 3 := ⟨RX4, TX4, tyX4, rfl, inX4, tyX4_ok, cl_X2_42, mem_u 315 (by decide +kernel) (by decide +kernel), mem_u 50 (by decide +kernel) (by decide +kernel)⟩
theorem cl_X2_47 : Cond.classLink RX2 47 RX9 ∈ lw_u := mem_u 341 (by decide +kernel) (by decide +kernel)
theorem nw_X2_47 : LkN RX2 47 9 3 := ⟨RX9, TX9, tyX9, rfl, inX9, tyX9_ok, cl_X2_47, mem_u 342 (by decide +kernel) (by decide +kernel), mem_u 51 (by decide +kernel) (by decide +kernel)⟩
theorem cl_X2_50 : Cond.classLink RX2 50 RX6 ∈ lw_u := mem_u 351 (by decide +kernel) (by decide +kernel)
theorem nw_X2_50 : LkN RX2 50 6 3 := ⟨RX6, TX6, tyX6, rfl, inX6, tyX6_ok, cl_X2_50, mem_u 352 (by decide +kernel) (by decide +kernel), mem_u 52 (by decide +kernel) (by decide +kernel)⟩
theorem cl_X2_53 : Cond.classLink RX2 53 RX1 ∈ lw_u := mem_u 361 (by decide +kernel) (by decide +kernel)
theorem nw_X2_53 : LkN RX2 53 1 3 := ⟨RX1, TX1, tyX1, rfl, inX1, tyX1_ok, cl_X2_53, mem_u 362 (by decide +kernel) (by decide +kernel), mem_u 53 (by decide +kernel) (by decide +kernel)⟩
theorem cl_X2_56 : Cond.classLink RX2 56 RX0 ∈ lw_u := mem_u 371 (by decide +kernel) (by decide +kernel)
theorem nw_X2_56 : LkN RX2 56 0 3 := ⟨RX0, TX0, tyX0, rfl, inX0, tyX0_ok, cl_X2_56, mem_u 372 (by decide +kernel) (by decide +kernel), mem_u 49 (by decide +kernel) (by decide +kernel)⟩
theorem cl_X11_260 : Cond.classLink RX11 260 RX4 ∈ lw_u := mem_u 459 (by decide +kernel) (by decide +kernel)
theorem nw_X11_260 : LkN RX11 260 4 3 := ⟨RX4, TX4, tyX4, rfl, inX4, tyX4_ok, cl_X11_260, mem_u 315 (by decide +kernel) (by decide +kernel), mem_u 50 (by decide +kernel) (by decide +kernel)⟩
theorem cl_X11_262 : Cond.classLink RX11 262 RX9 ∈ lw_u := mem_u 460 (by decide +kernel) (by decide +kernel)
theorem nw_X11_262 : LkN RX11 262 9 3 := ⟨RX9, TX9, tyX9, rfl, inX9, tyX9_ok, cl_X11_262, mem_u 342 (by decide +kernel) (by decide +kernel), mem_u 51 (by decide +kernel) (by decide +kernel)⟩
theorem cl_X11_264 : Cond.classLink RX11 264 RX6 ∈ lw_u := mem_u 461 (by decide +kernel) (by decide +kernel)
theorem nw_X11_264 : LkN RX11 264 6 3 := ⟨RX6, TX6, tyX6, rfl, inX6, tyX6_ok, cl_X11_264, mem_u 352 (by decide +kernel) (by decide +kernel), mem_u 52 (by decide +kernel) (by decide +kernel)⟩
theorem cl_X11_266 : Cond.classLink RX11 266 RX1 ∈ lw_u := mem_u 462 (by decide +kernel) (by decide +kernel)
theorem nw_X11_266 : LkN RX11 266 1 3 := ⟨RX1, TX1, tyX1, rfl, inX1, tyX1_ok, cl_X11_266, mem_u 362 (by decide +kernel) (by decide +kernel), mem_u 53 (by decide +kernel) (by decide +kernel)⟩
theorem cl_L_10 : Cond.classLink R_law 10 RX12 ∈ lw_u := mem_u 727 (by decide +kernel) (by decide +kernel)
theorem nw_L_10 : LkN R_law 10 12 37 := ⟨RX12, TX12, tyX12, rfl, inX12, tyX12_ok, cl_L_10, mem_u 728 (by decide +kernel) (by decide +kernel), mem_u 47 (by decide +kernel) (by decide +kernel)⟩
theorem k_J6_265 : Cond.constant RJ6 265 (1431655765 : Int32) ∈ lw_u := mem_u 590 (by decide +kernel) (by decide +kernel)
theorem k_J6_266 : Cond.constant RJ6 266 (858993459 : Int32) ∈ lw_u := mem_u 591 (by decide +kernel) (by decide +kernel)
theorem k_J6_267 : Cond.constant RJ6 267 (252645135 : Int32) ∈ lw_u := mem_u 592 (by decide +kernel) (by decide +kernel)
theorem k_X7_84 : Cond.constant RX7 84 (65536 : Int32) ∈ lw_u := mem_u 668 (by decide +kernel) (by decide +kernel)
theorem k_X12_153 : Cond.constant RX12 153 (1048576 : Int32) ∈ lw_u := mem_u 957 (by decide +kernel) (by decide +kernel)
theorem k_X7_78 : Cond.constantLong RX7 78 (1103515245 : Int64) ∈ lw_u := mem_u 665 (by decide +kernel) (by decide +kernel)
theorem k_X7_80 : Cond.constantLong RX7 80 (12345 : Int64) ∈ lw_u := mem_u 666 (by decide +kernel) (by decide +kernel)
theorem k_X7_82 : Cond.constantLong RX7 82 (2147483647 : Int64) ∈ lw_u := mem_u 667 (by decide +kernel) (by decide +kernel)
theorem k_X11_234 : Cond.constantLong RX11 234 (797 : Int64) ∈ lw_u := mem_u 712 (by decide +kernel) (by decide +kernel)
theorem k_X11_236 : Cond.constantLong RX11 236 (31 : Int64) ∈ lw_u := mem_u 713 (by decide +kernel) (by decide +kernel)
theorem k_X12_195 : Cond.constantLong RX12 195 (1103515245 : Int64) ∈ lw_u := mem_u 1021 (by decide +kernel) (by decide +kernel)
theorem k_X12_201 : Cond.constantLong RX12 201 (12345 : Int64) ∈ lw_u := mem_u 1022 (by decide +kernel) (by decide +kernel)
theorem k_X12_203 : Cond.constantLong RX12 203 (2147483647 : Int64) ∈ lw_u := mem_u 1023 (by decide +kernel) (by decide +kernel)
theorem k_X12_205 : Cond.constantLong RX12 205 (65536 : Int64) ∈ lw_u := mem_u 1024 (by decide +kernel) (by decide +kernel)
theorem k_X12_246 : Cond.constantLong RX12 246 (797 : Int64) ∈ lw_u := mem_u 1056 (by decide +kernel) (by decide +kernel)
theorem k_X12_237 : Cond.constantLong RX12 237 (31 : Int64) ∈ lw_u := mem_u 1061 (by decide +kernel) (by decide +kernel)
theorem ca_X1_X4 : Cond.castable RX1 RX4 ∈ lw_u := mem_u 1066 (by decide +kernel) (by decide +kernel)
theorem ca_X4_X0 : Cond.castable RX4 RX0 ∈ lw_u := mem_u 1067 (by decide +kernel) (by decide +kernel)
theorem ca_X9_X0 : Cond.castable RX9 RX0 ∈ lw_u := mem_u 1068 (by decide +kernel) (by decide +kernel)
theorem ca_X6_X0 : Cond.castable RX6 RX0 ∈ lw_u := mem_u 1069 (by decide +kernel) (by decide +kernel)
theorem ca_X1_X0 : Cond.castable RX1 RX0 ∈ lw_u := mem_u 1070 (by decide +kernel) (by decide +kernel)
theorem ac_int : Cond.arrayClass .int ∈ lw_u := mem_u 78 (by decide +kernel) (by decide +kernel)
theorem ac_byte : Cond.arrayClass .byte ∈ lw_u := mem_u 845 (by decide +kernel) (by decide +kernel)
theorem ao_Adder : Cond.arrayOver (.object RX0) ∈ lw_u := mem_u 86 (by decide +kernel) (by decide +kernel)
theorem oi_inst : Cond.instanceMethod objectInit ∈ lw_u := mem_u 61 (by decide +kernel) (by decide +kernel)
theorem oi_code : Cond.code objectInit ⟨#[0xb1]⟩ 1 none ∈ lw_u := mem_u 62 (by decide +kernel) (by decide +kernel)
